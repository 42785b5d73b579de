abbrev rm_X1_beginRow : Room := { frames := 0, cells := 0, slots := 0, locals := 0 }
set_option maxHeartbeats 4000000 in
set_option maxRecDepth 100000 in
theorem c_X1_beginRow (f m0 : Nat) (r0 : Nat → Nat) (b0 b1 b2 eh : Int) {w : PW} {n : Nat} (hF : fd w f b0 b1 b2 eh) (hR : fr w f m0 r0) : Ct0 yX1_beginRow cX1_beginRow 2 none rm_X1_beginRow [.ref f] w n (fun w1 n1 => n = n1 ∧ fr w1 f 16 (fun j => j) ∧ off w w1 (f + 1) (f + 2)) := by
  have fc := hF
  obtain ⟨g, fg, fg2⟩ := id hR
  refine Ctr.of rfl (Nat.le_of_ble_eq_true rfl) fun S hS => ?_
  have hb : S.1.1 = cX1_beginRow := by rw [hS]; rfl
  have ho : S.1.2.1 = RX1 := by rw [hS]; rfl
  have hnL : S.1.2.2.1 = 2 := by rw [hS]; rfl
  have hR0 : S.2.1 = rm_X1_beginRow := by rw [hS]; rfl
  show Wp S 0 [(0, .ref f)] [] w n 0 0
  refine r_iconst hb 1 dX1_beginRow_0 rfl ?_
  refine r_istore_n [(1, .int (iI 0)), (0, .ref f)] hb 2 2 dX1_beginRow_1 rfl rfl hnL (by decide) rfl ?_
  have lp : ∀ (d : Nat) (i : Nat) (wi : PW) (gi : Nat → Nat), 17 - i = d → (i ≤ 17) → (fd wi f b0 b1 b2 eh) → (wi (f + 1) = some (eI 17 (fun i => iI ((gi i : Nat) : Int)))) → (∀ j, j < i → gi j = j) → (off w wi (f + 1) (f + 2)) → Wp S 2 [(1, .int (iI (((i : Nat) : Int)))), (0, .ref f)] [] wi n 0 0 := by
    intro d
    induction d using Nat.strongRecOn with
    | _ d ih_lp =>
      intro i wi gi hd_lp hi fc fg hg hO
      refine r_iload_n hb 3 dX1_beginRow_2 rfl 0 rfl ?_
      refine r_aload_n hb 4 dX1_beginRow_3 rfl 1 rfl ?_
      refine r_get hb ho 7 dX1_beginRow_4 rfl lk_X1_9 pf_X1_0 fc rfl ?_
      refine r_alen hb 8 dX1_beginRow_7 rfl fg (by decide) 17 rfl ?_
      refine r_icmp_ge hb 11 24 dX1_beginRow_8 rfl (by decide) (by omega) (by omega) (fun c8 => ?_) (fun c8 => ?_)
      · refine r_vret hS dX1_beginRow_24 rfl (Nat.zero_le _) (Nat.zero_le _) ?_
        exact ⟨rfl, rfl, ⟨gi, fg, fun j hj => hg j (by omega)⟩, hO⟩
      · refine r_aload_n hb 12 dX1_beginRow_11 rfl 1 rfl ?_
        refine r_get hb ho 15 dX1_beginRow_12 rfl lk_X1_9 pf_X1_0 fc rfl ?_
        refine r_iload_n hb 16 dX1_beginRow_15 rfl 0 rfl ?_
        refine r_iload_n hb 17 dX1_beginRow_16 rfl 0 rfl ?_
        refine r_iastN (x := i) (by omega) hb 18 dX1_beginRow_17 rfl fg i (by omega) (⟨by omega, by omega⟩) (fun w_17 hw_17 => ?_)
        have ow_17 := pset_off hw_17
        have xw_17 : w_17 (f + 1) = some (eI 17 (fun ii => iI (((updN gi i i) ii : Nat) : Int))) := by rw [hw_17]; exact pset_eq _ _ _
        have fc : w_17 f = some (eO 1 [.ref (f + 1), .int (iI (b0)), .int (iI (b1)), .int (iI (b2)), .int (iI (eh))]) := (ow_17 _ (by omega)).trans fc
        refine r_iinc [(1, .int (iI (((i : Nat) : Int) + 1))), (0, .ref f)] hb 21 2 0 dX1_beginRow_18 rfl rfl hnL (by decide) (((i : Nat) : Int) + 1) (by omega) rfl ?_
        refine r_goto hb 2 dX1_beginRow_21 (by decide) ?_
        refine r_lv [(1, .int (iI (((i + 1 : Nat)) : Int))), (0, .ref f)] [0, 1] rfl ?_
        refine ih_lp (17 - (i + 1)) (by omega) (i + 1) _ _ rfl (by omega) fc xw_17 ?_ (hO.trans (ow_17.mono (by omega) (by omega)))
        intro j hj
        by_cases h : j = i
        · subst h; exact updN_s _ _ _
        · rw [updN_n _ _ h]; exact hg j (by omega)
  refine r_lv [(1, .int (iI (((0 : Nat)) : Int))), (0, .ref f)] [0, 1] rfl ?_
  exact lp _ 0 _ g rfl (Nat.zero_le _) fc fg (fun j hj => absurd hj (Nat.not_lt_zero _)) (off.rfl' _ _ _)

abbrev rm_X1_takeLetter : Room := { frames := 1, cells := 0, slots := 0, locals := 21 }
set_option maxHeartbeats 4000000 in
set_option maxRecDepth 100000 in
theorem c_X1_takeLetter (f t : Nat) (r : Nat → Nat) (q : List Int32) (c : Int32) (b0 b1 b2 eh : Int) {w : PW} {n : Nat} (hF : fd w f b0 b1 b2 eh) (hR : fr w f q.length r) (hQ : tx w t 16 q) (hd : f + 2 ≤ t ∨ t + 2 ≤ f) (hr : ∀ j, j ≤ q.length → r j ≤ 1000) : Ct0 yX1_takeLetter cX1_takeLetter 10 none rm_X1_takeLetter [.ref f, .ref t, .int c] w n (fun w1 n1 => n = n1 ∧ fr w1 f q.length (rowS q c r) ∧ off w w1 (f + 1) (f + 2)) := by
  have fc := hF
  obtain ⟨g, fg, fg2⟩ := id hR
  obtain ⟨q0, q1, qg, q2, q3⟩ := id hQ
  refine Ctr.of rfl (Nat.le_of_ble_eq_true rfl) fun S hS => ?_
  have hb : S.1.1 = cX1_takeLetter := by rw [hS]; rfl
  have ho : S.1.2.1 = RX1 := by rw [hS]; rfl
  have hnL : S.1.2.2.1 = 10 := by rw [hS]; rfl
  have hR0 : S.2.1 = rm_X1_takeLetter := by rw [hS]; rfl
  show Wp S 0 [(0, .ref f), (1, .ref t), (2, .int c)] [] w n 0 0
  refine r_aload_n hb 1 dX1_takeLetter_0 rfl 1 rfl ?_
  refine r_get hb ho 4 dX1_takeLetter_1 rfl lk_X1_71 pf_X7_0 q0 rfl ?_
  refine r_astore_n [(3, .ref (t + 1)), (0, .ref f), (1, .ref t), (2, .int c)] hb 5 10 dX1_takeLetter_4 rfl rfl hnL (by decide) rfl ?_
  refine r_aload_n hb 6 dX1_takeLetter_5 rfl 2 rfl ?_
  refine r_get hb ho 9 dX1_takeLetter_6 rfl lk_X1_48 pf_X7_1 q0 rfl ?_
  refine r_aload_n hb 10 dX1_takeLetter_9 rfl 0 rfl ?_
  refine r_alen hb 11 dX1_takeLetter_10 rfl q2 (by decide) 16 rfl ?_
  refine r_aload_n hb 12 dX1_takeLetter_11 rfl 1 rfl ?_
  refine r_get hb ho 15 dX1_takeLetter_12 rfl lk_X1_9 pf_X1_0 fc rfl ?_
  refine r_alen hb 16 dX1_takeLetter_15 rfl fg (by decide) 17 rfl ?_
  refine r_iconst hb 17 dX1_takeLetter_16 rfl ?_
  refine r_isubZ hb 18 16 dX1_takeLetter_17 rfl (by omega) ?_
  refine r_min hb ho 21 dX1_takeLetter_18 rfl ck_X1_64 (by rw [hR0]; exact Nat.le_of_ble_eq_true rfl) (by rw [hR0]; exact Nat.le_of_ble_eq_true rfl) (by rw [hR0]; exact Nat.zero_le _) (by rw [hR0]; exact Nat.zero_le _) (by omega) (by omega) 16 (by omega) ?_
  refine r_min hb ho 24 dX1_takeLetter_21 rfl ck_X1_64 (by rw [hR0]; exact Nat.le_of_ble_eq_true rfl) (by rw [hR0]; exact Nat.le_of_ble_eq_true rfl) (by rw [hR0]; exact Nat.zero_le _) (by rw [hR0]; exact Nat.zero_le _) (by omega) (by omega) (((q.length : Nat) : Int)) (by omega) ?_
  refine r_istore [(4, .int (iI (((q.length : Nat) : Int)))), (3, .ref (t + 1)), (0, .ref f), (1, .ref t), (2, .int c)] hb 26 10 dX1_takeLetter_24 rfl hnL (by decide) rfl ?_
  refine r_iload hb 28 dX1_takeLetter_26 rfl 0 rfl ?_
  refine r_if_ge hb 31 32 dX1_takeLetter_28 rfl (by decide) (by omega) (fun c28 => ?_) (fun c28 => ?_)
  · refine r_aload_n hb 33 dX1_takeLetter_32 rfl 2 rfl ?_
    refine r_get hb ho 36 dX1_takeLetter_33 rfl lk_X1_9 pf_X1_0 fc rfl ?_
    refine r_iconst hb 37 dX1_takeLetter_36 rfl ?_
    refine r_ialdN hb 38 dX1_takeLetter_37 rfl fg 0 (by omega) (⟨by omega, by omega⟩) ?_
    refine r_topv (.int (iI (((r 0 : Nat) : Int)))) (by rw [fg2 0 (Nat.zero_le _)]) ?_
    refine r_istore [(5, .int (iI (((r 0 : Nat) : Int)))), (4, .int (iI (((q.length : Nat) : Int)))), (3, .ref (t + 1)), (0, .ref f), (1, .ref t), (2, .int c)] hb 40 10 dX1_takeLetter_38 rfl hnL (by decide) rfl ?_
    have hr0 := hr 0 (Nat.zero_le _)
    refine r_iload hb 42 dX1_takeLetter_40 rfl 0 rfl ?_
    refine r_iconst hb 43 dX1_takeLetter_42 rfl ?_
    refine r_iaddZ hb 44 (((r 0 : Nat) : Int) + 1) dX1_takeLetter_43 rfl (by omega) ?_
    refine r_istore [(6, .int (iI (((r 0 : Nat) : Int) + 1))), (5, .int (iI (((r 0 : Nat) : Int)))), (4, .int (iI (((q.length : Nat) : Int)))), (3, .ref (t + 1)), (0, .ref f), (1, .ref t), (2, .int c)] hb 46 10 dX1_takeLetter_44 rfl hnL (by decide) rfl ?_
    refine r_aload_n hb 47 dX1_takeLetter_46 rfl 4 rfl ?_
    refine r_get hb ho 50 dX1_takeLetter_47 rfl lk_X1_9 pf_X1_0 fc rfl ?_
    refine r_iconst hb 51 dX1_takeLetter_50 rfl ?_
    refine r_iload hb 53 dX1_takeLetter_51 rfl 0 rfl ?_
    refine r_iastN (x := (r 0 + 1)) (by omega) hb 54 dX1_takeLetter_53 rfl fg 0 (by omega) (⟨by omega, by omega⟩) (fun w_53 hw_53 => ?_)
    have ow_53 := pset_off hw_53
    have xw_53 : w_53 (f + 1) = some (eI 17 (fun ii => iI (((updN g 0 (r 0 + 1)) ii : Nat) : Int))) := by rw [hw_53]; exact pset_eq _ _ _
    have fc : w_53 f = some (eO 1 [.ref (f + 1), .int (iI (b0)), .int (iI (b1)), .int (iI (b2)), .int (iI (eh))]) := (ow_53 _ (by omega)).trans fc
    have q0 : w_53 t = some (eO 7 [.ref (t + 1), .int (iI (((q.length : Nat) : Int)))]) := (ow_53 _ (by omega)).trans q0
    have q2 : w_53 (t + 1) = some (eI 16 qg) := (ow_53 _ (by omega)).trans q2
    refine r_iconst hb 55 dX1_takeLetter_54 rfl ?_
    refine r_istore [(7, .int (iI 1)), (6, .int (iI (((r 0 : Nat) : Int) + 1))), (5, .int (iI (((r 0 : Nat) : Int)))), (4, .int (iI (((q.length : Nat) : Int)))), (3, .ref (t + 1)), (0, .ref f), (1, .ref t), (2, .int c)] hb 57 10 dX1_takeLetter_55 rfl hnL (by decide) rfl ?_
    have lp : ∀ (d : Nat) (k : Nat) (wi : PW) (gi : Nat → Nat), q.length - k = d → (k ≤ q.length) → (fd wi f b0 b1 b2 eh) → (wi (f + 1) = some (eI 17 (fun i => iI ((gi i : Nat) : Int)))) → (wi t = some (eO 7 [.ref (t + 1), .int (iI ((q.length : Nat) : Int))])) → (wi (t + 1) = some (eI 16 qg)) → (∀ j, j ≤ k → gi j = rowS q c r j) → (∀ j, k < j → j ≤ q.length → gi j = r j) → (off w wi (f + 1) (f + 2)) → Wp S 57 [(7, .int (iI (((k : Nat) : Int) + 1))), (6, .int (iI (((rowS q c r k : Nat) : Int)))), (5, .int (iI (((r k : Nat) : Int)))), (4, .int (iI (((q.length : Nat) : Int)))), (3, .ref (t + 1)), (0, .ref f), (1, .ref t), (2, .int c)] [] wi n 0 0 := by
      intro d
      induction d using Nat.strongRecOn with
      | _ d ih_lp =>
        intro k wi gi hd_lp hk fc fg q0 q2 hlo hhi hO
        have hrk := hr k hk
        have hsk := rowS_le q c r k
        refine r_iload hb 59 dX1_takeLetter_57 rfl 0 rfl ?_
        refine r_iload hb 61 dX1_takeLetter_59 rfl 3 rfl ?_
        refine r_icmp_gt hb 64 129 dX1_takeLetter_61 rfl (by decide) (by omega) (by omega) (fun c61 => ?_) (fun c61 => ?_)
        · refine r_vret hS dX1_takeLetter_129 rfl (Nat.zero_le _) (Nat.zero_le _) ?_
          exact ⟨rfl, rfl, ⟨gi, fg, fun j hj => hlo j (by omega)⟩, hO⟩
        · refine r_aload_n hb 65 dX1_takeLetter_64 rfl 5 rfl ?_
          refine r_get hb ho 68 dX1_takeLetter_65 rfl lk_X1_9 pf_X1_0 fc rfl ?_
          refine r_iload hb 70 dX1_takeLetter_68 rfl 0 rfl ?_
          refine r_ialdN hb 71 dX1_takeLetter_70 rfl fg (k + 1) (by omega) (⟨by omega, by omega⟩) ?_
          refine r_topv (.int (iI (((r (k + 1) : Nat) : Int)))) (by rw [hhi (k + 1) (by omega) (by omega)]) ?_
          have hrk1 := hr (k + 1) (by omega)
          refine r_istore [(8, .int (iI (((r (k + 1) : Nat) : Int)))), (7, .int (iI (((k : Nat) : Int) + 1))), (6, .int (iI (((rowS q c r k : Nat) : Int)))), (5, .int (iI (((r k : Nat) : Int)))), (4, .int (iI (((q.length : Nat) : Int)))), (3, .ref (t + 1)), (0, .ref f), (1, .ref t), (2, .int c)] hb 73 10 dX1_takeLetter_71 rfl hnL (by decide) rfl ?_
          refine r_aload_n hb 74 dX1_takeLetter_73 rfl 5 rfl ?_
          refine r_iload hb 76 dX1_takeLetter_74 rfl 1 rfl ?_
          refine r_iconst hb 77 dX1_takeLetter_76 rfl ?_
          refine r_isubZ hb 78 (((k : Nat) : Int)) dX1_takeLetter_77 rfl (by omega) ?_
          refine r_iald hb 79 dX1_takeLetter_78 rfl q2 k (by omega) (⟨by omega, by omega⟩) ?_
          refine r_iload_n hb 80 dX1_takeLetter_79 rfl 8 rfl ?_
          refine r_icmpR_ne hb 83 88 dX1_takeLetter_80 rfl (by decide) (fun c80 => ?_) (fun c80 => ?_)
          · refine r_iload hb 90 dX1_takeLetter_88 rfl 3 rfl ?_
            refine r_iconst hb 91 dX1_takeLetter_90 rfl ?_
            refine r_iaddZ hb 92 (((r k : Nat) : Int) + 1) dX1_takeLetter_91 rfl (by omega) ?_
            refine r_istore [(9, .int (iI (((r k : Nat) : Int) + 1))), (8, .int (iI (((r (k + 1) : Nat) : Int)))), (7, .int (iI (((k : Nat) : Int) + 1))), (6, .int (iI (((rowS q c r k : Nat) : Int)))), (5, .int (iI (((r k : Nat) : Int)))), (4, .int (iI (((q.length : Nat) : Int)))), (3, .ref (t + 1)), (0, .ref f), (1, .ref t), (2, .int c)] hb 94 10 dX1_takeLetter_92 rfl hnL (by decide) rfl ?_
            refine r_iload hb 96 dX1_takeLetter_94 rfl 0 rfl ?_
            refine r_iconst hb 97 dX1_takeLetter_96 rfl ?_
            refine r_iload hb 99 dX1_takeLetter_97 rfl 1 rfl ?_
            refine r_iload hb 101 dX1_takeLetter_99 rfl 3 rfl ?_
            refine r_min hb ho 104 dX1_takeLetter_101 rfl ck_X1_64 (by rw [hR0]; exact Nat.le_of_ble_eq_true rfl) (by rw [hR0]; exact Nat.le_of_ble_eq_true rfl) (by rw [hR0]; exact Nat.zero_le _) (by rw [hR0]; exact Nat.zero_le _) (by omega) (by omega) (((min ((r (k + 1))) ((rowS q c r k)) : Nat) : Int)) (by omega) ?_
            refine r_iaddZ hb 105 (((min ((r (k + 1))) ((rowS q c r k)) : Nat) : Int) + 1) dX1_takeLetter_104 rfl (by omega) ?_
            refine r_min hb ho 108 dX1_takeLetter_105 rfl ck_X1_64 (by rw [hR0]; exact Nat.le_of_ble_eq_true rfl) (by rw [hR0]; exact Nat.le_of_ble_eq_true rfl) (by rw [hR0]; exact Nat.zero_le _) (by rw [hR0]; exact Nat.zero_le _) (by omega) (by omega) (((min ((r k) + 1) ((min ((r (k + 1))) ((rowS q c r k))) + 1) : Nat) : Int)) (by omega) ?_
            refine r_istore [(6, .int (iI (((min ((r k) + 1) ((min ((r (k + 1))) ((rowS q c r k))) + 1) : Nat) : Int)))), (9, .int (iI (((r k : Nat) : Int) + 1))), (8, .int (iI (((r (k + 1) : Nat) : Int)))), (7, .int (iI (((k : Nat) : Int) + 1))), (5, .int (iI (((r k : Nat) : Int)))), (4, .int (iI (((q.length : Nat) : Int)))), (3, .ref (t + 1)), (0, .ref f), (1, .ref t), (2, .int c)] hb 110 10 dX1_takeLetter_108 rfl hnL (by decide) rfl ?_
            refine r_aload_n hb 111 dX1_takeLetter_110 rfl 7 rfl ?_
            refine r_get hb ho 114 dX1_takeLetter_111 rfl lk_X1_9 pf_X1_0 fc rfl ?_
            refine r_iload hb 116 dX1_takeLetter_114 rfl 3 rfl ?_
            refine r_iload hb 118 dX1_takeLetter_116 rfl 0 rfl ?_
            refine r_iastN (x := ((min ((r k) + 1) ((min ((r (k + 1))) ((rowS q c r k))) + 1)))) (by omega) hb 119 dX1_takeLetter_118 rfl fg (k + 1) (by omega) (⟨by omega, by omega⟩) (fun w_118 hw_118 => ?_)
            have ow_118 := pset_off hw_118
            have xw_118 : w_118 (f + 1) = some (eI 17 (fun ii => iI (((updN gi (k + 1) ((min ((r k) + 1) ((min ((r (k + 1))) ((rowS q c r k))) + 1)))) ii : Nat) : Int))) := by rw [hw_118]; exact pset_eq _ _ _
            have fc : w_118 f = some (eO 1 [.ref (f + 1), .int (iI (b0)), .int (iI (b1)), .int (iI (b2)), .int (iI (eh))]) := (ow_118 _ (by omega)).trans fc
            have q0 : w_118 t = some (eO 7 [.ref (t + 1), .int (iI (((q.length : Nat) : Int)))]) := (ow_118 _ (by omega)).trans q0
            have q2 : w_118 (t + 1) = some (eI 16 qg) := (ow_118 _ (by omega)).trans q2
            refine r_iload hb 121 dX1_takeLetter_119 rfl 2 rfl ?_
            refine r_istore [(5, .int (iI (((r (k + 1) : Nat) : Int)))), (6, .int (iI (((min ((r k) + 1) ((min ((r (k + 1))) ((rowS q c r k))) + 1) : Nat) : Int)))), (9, .int (iI (((r k : Nat) : Int) + 1))), (8, .int (iI (((r (k + 1) : Nat) : Int)))), (7, .int (iI (((k : Nat) : Int) + 1))), (4, .int (iI (((q.length : Nat) : Int)))), (3, .ref (t + 1)), (0, .ref f), (1, .ref t), (2, .int c)] hb 123 10 dX1_takeLetter_121 rfl hnL (by decide) rfl ?_
            refine r_iinc [(7, .int (iI (((k : Nat) : Int) + 2))), (5, .int (iI (((r (k + 1) : Nat) : Int)))), (6, .int (iI (((min ((r k) + 1) ((min ((r (k + 1))) ((rowS q c r k))) + 1) : Nat) : Int)))), (9, .int (iI (((r k : Nat) : Int) + 1))), (8, .int (iI (((r (k + 1) : Nat) : Int)))), (4, .int (iI (((q.length : Nat) : Int)))), (3, .ref (t + 1)), (0, .ref f), (1, .ref t), (2, .int c)] hb 126 10 4 dX1_takeLetter_123 rfl rfl hnL (by decide) (((k : Nat) : Int) + 2) (by omega) rfl ?_
            refine r_goto hb 57 dX1_takeLetter_126 (by decide) ?_
            have hk2 : k + 1 ≤ q.length := by omega
            have e : rowS q c r (k + 1) = min (r k + 1) (min (r (k + 1)) (rowS q c r k) + 1) := by
              simp only [rowS]
              rw [q3 k (by omega)] at c80
              rw [if_neg c80]
            refine r_lv [(7, .int (iI (((k + 1 : Nat) : Int) + 1))), (6, .int (iI ((rowS q c r (k + 1) : Nat) : Int))), (5, .int (iI ((r (k + 1) : Nat) : Int))), (4, .int (iI ((q.length : Nat) : Int))), (3, .ref (t + 1)), (0, .ref f), (1, .ref t), (2, .int c)] [0, 2, 1, 5, 6, 7, 8, 9] (by rw [e]; rfl) ?_
            refine ih_lp (q.length - (k + 1)) (by omega) (k + 1) _ _ rfl (by omega) fc xw_118 q0 q2 ?_ ?_ (hO.trans (ow_118.mono (by omega) (by omega)))
            · intro j hj
              by_cases h : j = k + 1
              · subst h; rw [updN_s, e]
              · rw [updN_n _ _ h]; exact hlo j (by omega)
            · intro j hj hj2
              rw [updN_n _ _ (by omega)]; exact hhi j (by omega) hj2
          · refine r_iload hb 85 dX1_takeLetter_83 rfl 3 rfl ?_
            refine r_goto hb 92 dX1_takeLetter_85 (by decide) ?_
            refine r_istore [(9, .int (iI (((r k : Nat) : Int)))), (8, .int (iI (((r (k + 1) : Nat) : Int)))), (7, .int (iI (((k : Nat) : Int) + 1))), (6, .int (iI (((rowS q c r k : Nat) : Int)))), (5, .int (iI (((r k : Nat) : Int)))), (4, .int (iI (((q.length : Nat) : Int)))), (3, .ref (t + 1)), (0, .ref f), (1, .ref t), (2, .int c)] hb 94 10 dX1_takeLetter_92 rfl hnL (by decide) rfl ?_
            refine r_iload hb 96 dX1_takeLetter_94 rfl 0 rfl ?_
            refine r_iconst hb 97 dX1_takeLetter_96 rfl ?_
            refine r_iload hb 99 dX1_takeLetter_97 rfl 1 rfl ?_
            refine r_iload hb 101 dX1_takeLetter_99 rfl 3 rfl ?_
            refine r_min hb ho 104 dX1_takeLetter_101 rfl ck_X1_64 (by rw [hR0]; exact Nat.le_of_ble_eq_true rfl) (by rw [hR0]; exact Nat.le_of_ble_eq_true rfl) (by rw [hR0]; exact Nat.zero_le _) (by rw [hR0]; exact Nat.zero_le _) (by omega) (by omega) (((min ((r (k + 1))) ((rowS q c r k)) : Nat) : Int)) (by omega) ?_
            refine r_iaddZ hb 105 (((min ((r (k + 1))) ((rowS q c r k)) : Nat) : Int) + 1) dX1_takeLetter_104 rfl (by omega) ?_
            refine r_min hb ho 108 dX1_takeLetter_105 rfl ck_X1_64 (by rw [hR0]; exact Nat.le_of_ble_eq_true rfl) (by rw [hR0]; exact Nat.le_of_ble_eq_true rfl) (by rw [hR0]; exact Nat.zero_le _) (by rw [hR0]; exact Nat.zero_le _) (by omega) (by omega) (((min ((r k)) ((min ((r (k + 1))) ((rowS q c r k))) + 1) : Nat) : Int)) (by omega) ?_
            refine r_istore [(6, .int (iI (((min ((r k)) ((min ((r (k + 1))) ((rowS q c r k))) + 1) : Nat) : Int)))), (9, .int (iI (((r k : Nat) : Int)))), (8, .int (iI (((r (k + 1) : Nat) : Int)))), (7, .int (iI (((k : Nat) : Int) + 1))), (5, .int (iI (((r k : Nat) : Int)))), (4, .int (iI (((q.length : Nat) : Int)))), (3, .ref (t + 1)), (0, .ref f), (1, .ref t), (2, .int c)] hb 110 10 dX1_takeLetter_108 rfl hnL (by decide) rfl ?_
            refine r_aload_n hb 111 dX1_takeLetter_110 rfl 7 rfl ?_
            refine r_get hb ho 114 dX1_takeLetter_111 rfl lk_X1_9 pf_X1_0 fc rfl ?_
            refine r_iload hb 116 dX1_takeLetter_114 rfl 3 rfl ?_
            refine r_iload hb 118 dX1_takeLetter_116 rfl 0 rfl ?_
            refine r_iastN (x := ((min ((r k)) ((min ((r (k + 1))) ((rowS q c r k))) + 1)))) (by omega) hb 119 dX1_takeLetter_118 rfl fg (k + 1) (by omega) (⟨by omega, by omega⟩) (fun w_118 hw_118 => ?_)
            have ow_118 := pset_off hw_118
            have xw_118 : w_118 (f + 1) = some (eI 17 (fun ii => iI (((updN gi (k + 1) ((min ((r k)) ((min ((r (k + 1))) ((rowS q c r k))) + 1)))) ii : Nat) : Int))) := by rw [hw_118]; exact pset_eq _ _ _
            have fc : w_118 f = some (eO 1 [.ref (f + 1), .int (iI (b0)), .int (iI (b1)), .int (iI (b2)), .int (iI (eh))]) := (ow_118 _ (by omega)).trans fc
            have q0 : w_118 t = some (eO 7 [.ref (t + 1), .int (iI (((q.length : Nat) : Int)))]) := (ow_118 _ (by omega)).trans q0
            have q2 : w_118 (t + 1) = some (eI 16 qg) := (ow_118 _ (by omega)).trans q2
            refine r_iload hb 121 dX1_takeLetter_119 rfl 2 rfl ?_
            refine r_istore [(5, .int (iI (((r (k + 1) : Nat) : Int)))), (6, .int (iI (((min ((r k)) ((min ((r (k + 1))) ((rowS q c r k))) + 1) : Nat) : Int)))), (9, .int (iI (((r k : Nat) : Int)))), (8, .int (iI (((r (k + 1) : Nat) : Int)))), (7, .int (iI (((k : Nat) : Int) + 1))), (4, .int (iI (((q.length : Nat) : Int)))), (3, .ref (t + 1)), (0, .ref f), (1, .ref t), (2, .int c)] hb 123 10 dX1_takeLetter_121 rfl hnL (by decide) rfl ?_
            refine r_iinc [(7, .int (iI (((k : Nat) : Int) + 2))), (5, .int (iI (((r (k + 1) : Nat) : Int)))), (6, .int (iI (((min ((r k)) ((min ((r (k + 1))) ((rowS q c r k))) + 1) : Nat) : Int)))), (9, .int (iI (((r k : Nat) : Int)))), (8, .int (iI (((r (k + 1) : Nat) : Int)))), (4, .int (iI (((q.length : Nat) : Int)))), (3, .ref (t + 1)), (0, .ref f), (1, .ref t), (2, .int c)] hb 126 10 4 dX1_takeLetter_123 rfl rfl hnL (by decide) (((k : Nat) : Int) + 2) (by omega) rfl ?_
            refine r_goto hb 57 dX1_takeLetter_126 (by decide) ?_
            have hk2 : k + 1 ≤ q.length := by omega
            have e : rowS q c r (k + 1) = min (r k) (min (r (k + 1)) (rowS q c r k) + 1) := by
              simp only [rowS]
              rw [q3 k (by omega)] at c80
              rw [if_pos c80]
            refine r_lv [(7, .int (iI (((k + 1 : Nat) : Int) + 1))), (6, .int (iI ((rowS q c r (k + 1) : Nat) : Int))), (5, .int (iI ((r (k + 1) : Nat) : Int))), (4, .int (iI ((q.length : Nat) : Int))), (3, .ref (t + 1)), (0, .ref f), (1, .ref t), (2, .int c)] [0, 2, 1, 5, 6, 7, 8, 9] (by rw [e]; rfl) ?_
            refine ih_lp (q.length - (k + 1)) (by omega) (k + 1) _ _ rfl (by omega) fc xw_118 q0 q2 ?_ ?_ (hO.trans (ow_118.mono (by omega) (by omega)))
            · intro j hj
              by_cases h : j = k + 1
              · subst h; rw [updN_s, e]
              · rw [updN_n _ _ h]; exact hlo j (by omega)
            · intro j hj hj2
              rw [updN_n _ _ (by omega)]; exact hhi j (by omega) hj2
    refine r_lv [(7, .int (iI (((0 : Nat) : Int) + 1))), (6, .int (iI ((rowS q c r 0 : Nat) : Int))), (5, .int (iI ((r 0 : Nat) : Int))), (4, .int (iI ((q.length : Nat) : Int))), (3, .ref (t + 1)), (0, .ref f), (1, .ref t), (2, .int c)] [0, 1, 2, 3, 4, 5, 6, 7] rfl ?_
    refine lp _ 0 _ _ rfl (Nat.zero_le _) fc xw_53 q0 q2 ?_ ?_ (ow_53.mono (by omega) (by omega))
    · intro j hj
      rw [show j = 0 by omega, updN_s]; rfl
    · intro j hj hj2
      rw [updN_n _ _ (by omega)]; exact fg2 j hj2
  · exfalso; omega

abbrev rm_X1_endOfRow : Room := { frames := 0, cells := 0, slots := 0, locals := 0 }
set_option maxHeartbeats 4000000 in
set_option maxRecDepth 100000 in
theorem c_X1_endOfRow (f t : Nat) (r : Nat → Nat) (q : List Int32) (b0 b1 b2 eh : Int) {w : PW} {n : Nat} (hF : fd w f b0 b1 b2 eh) (hR : fr w f q.length r) (hQ : tx w t 16 q) : CtR yX1_endOfRow cX1_endOfRow 2 (some .int) rm_X1_endOfRow [.ref f, .ref t] w n (.int (iI (((r q.length : Nat) : Int)))) := by
  have fc := hF
  obtain ⟨g, fg, fg2⟩ := id hR
  obtain ⟨q0, q1, qg, q2, q3⟩ := id hQ
  refine Ctr.of rfl (Nat.le_of_ble_eq_true rfl) fun S hS => ?_
  have hb : S.1.1 = cX1_endOfRow := by rw [hS]; rfl
  have ho : S.1.2.1 = RX1 := by rw [hS]; rfl
  have hnL : S.1.2.2.1 = 2 := by rw [hS]; rfl
  have hR0 : S.2.1 = rm_X1_endOfRow := by rw [hS]; rfl
  show Wp S 0 [(0, .ref f), (1, .ref t)] [] w n 0 0
  refine r_aload_n hb 1 dX1_endOfRow_0 rfl 1 rfl ?_
  refine r_get hb ho 4 dX1_endOfRow_1 rfl lk_X1_48 pf_X7_1 q0 rfl ?_
  refine r_if_lt hb 7 31 dX1_endOfRow_4 rfl (by decide) (by omega) (fun c4 => ?_) (fun c4 => ?_)
  · exfalso; omega
  · refine r_aload_n hb 8 dX1_endOfRow_7 rfl 1 rfl ?_
    refine r_get hb ho 11 dX1_endOfRow_8 rfl lk_X1_48 pf_X7_1 q0 rfl ?_
    refine r_aload_n hb 12 dX1_endOfRow_11 rfl 0 rfl ?_
    refine r_get hb ho 15 dX1_endOfRow_12 rfl lk_X1_9 pf_X1_0 fc rfl ?_
    refine r_alen hb 16 dX1_endOfRow_15 rfl fg (by decide) 17 rfl ?_
    refine r_icmp_ge hb 19 31 dX1_endOfRow_16 rfl (by decide) (by omega) (by omega) (fun c16 => ?_) (fun c16 => ?_)
    · exfalso; omega
    · refine r_aload_n hb 20 dX1_endOfRow_19 rfl 0 rfl ?_
      refine r_get hb ho 23 dX1_endOfRow_20 rfl lk_X1_9 pf_X1_0 fc rfl ?_
      refine r_aload_n hb 24 dX1_endOfRow_23 rfl 1 rfl ?_
      refine r_get hb ho 27 dX1_endOfRow_24 rfl lk_X1_48 pf_X7_1 q0 rfl ?_
      refine r_ialdN hb 28 dX1_endOfRow_27 rfl fg q.length (by omega) (⟨by omega, by omega⟩) ?_
      refine r_goto hb 32 dX1_endOfRow_28 (by decide) ?_
      refine r_iret hS dX1_endOfRow_32 rfl rfl (Nat.zero_le _) (Nat.zero_le _) ?_
      exact ⟨_, rfl, by rw [fg2 _ (Nat.le_refl _)], rfl, rfl⟩

abbrev rm_X1_distanceTo : Room := { frames := 2, cells := 0, slots := 0, locals := 50 }
set_option maxHeartbeats 4000000 in
set_option maxRecDepth 100000 in
theorem c_X1_distanceTo (a u s e : Nat) (x : Nt) (D : List Int32) (f m0 : Nat) (r0 : Nat → Nat) (b0 b1 b2 eh : Int) {w : PW} {n : Nat} (hF : fd w f b0 b1 b2 eh) (hR : fr w f m0 r0) (hN : nt w a x) (hD : tx w u 120 D) (hd1 : f + 2 ≤ a ∨ a + 7 ≤ f) (hd2 : f + 2 ≤ u ∨ u + 2 ≤ f) (he : e ≤ D.length) (hs : s ≤ 200) : Ct1 yX1_distanceTo cX1_distanceTo 6 (some .int) rm_X1_distanceTo [.ref f, .ref a, .ref u, .int (iI (((s : Nat) : Int))), .int (iI (((e : Nat) : Int)))] w n (fun v w1 n1 => v = .int (iI ((edD (nQ x) D s e : Nat) : Int)) ∧ n = n1 ∧ (∃ r, fr w1 f 0 r) ∧ off w w1 (f + 1) (f + 2)) := by
  obtain ⟨h0, tP, tQ, tS, hnum, hB, hE⟩ := id hN
  have fc := hF
  have q0 := tQ.1
  have d0 := hD.1
  have d1 := hD.2.1
  have q1 := tQ.2.1
  refine Ctr.of rfl (Nat.le_of_ble_eq_true rfl) fun S hS => ?_
  have hb : S.1.1 = cX1_distanceTo := by rw [hS]; rfl
  have ho : S.1.2.1 = RX1 := by rw [hS]; rfl
  have hnL : S.1.2.2.1 = 6 := by rw [hS]; rfl
  have hR0 : S.2.1 = rm_X1_distanceTo := by rw [hS]; rfl
  show Wp S 0 [(0, .ref f), (1, .ref a), (2, .ref u), (3, .int (iI (((s : Nat) : Int)))), (4, .int (iI (((e : Nat) : Int))))] [] w n 0 0
  refine r_aload_n hb 1 dX1_distanceTo_0 rfl 0 rfl ?_
  refine r_callV0 (st := []) hb ho 4 dX1_distanceTo_1 rfl ck_X1_15 (c_X1_beginRow f m0 r0 b0 b1 b2 eh fc hR) rfl rfl (fc) rfl rfl (by rw [hR0]; exact ⟨Nat.le_of_ble_eq_true rfl, Nat.le_of_ble_eq_true rfl⟩) (Nat.le_of_ble_eq_true rfl) ⟨rfl, rfl⟩ (by rw [hR0]; exact Nat.zero_le _) (by rw [hR0]; exact Nat.zero_le _) (fun w_1 nw_1 qw_1 => ?_)
  obtain ⟨rfl, hR, ow_1⟩ := qw_1
  have fc : w_1 f = some (eO 1 [.ref (f + 1), .int (iI (b0)), .int (iI (b1)), .int (iI (b2)), .int (iI (eh))]) := (ow_1 _ (by omega)).trans fc
  have hN : nt w_1 a x := hN.off ow_1 (by omega)
  have h0 : w_1 a = some (eO 3 [.ref (a + 1), .ref (a + 3), .ref (a + 5), .int (iI (((nNum x : Nat) : Int))), .int (bI (nK x)), .int (iI (((nB x : Nat) : Int))), .int (iI (((nE x : Nat) : Int))), .int (nW x)]) := (ow_1 _ (by omega)).trans h0
  have tQ : tx w_1 (a + 3) 16 (nQ x) := tQ.off ow_1 (by omega)
  have q0 : w_1 (a + 3) = some (eO 7 [.ref (a + 3 + 1), .int (iI ((((nQ x).length : Nat) : Int)))]) := (ow_1 _ (by omega)).trans q0
  have hD : tx w_1 u 120 D := hD.off ow_1 (by omega)
  have d0 : w_1 u = some (eO 7 [.ref (u + 1), .int (iI (((D.length : Nat) : Int)))]) := (ow_1 _ (by omega)).trans d0
  refine r_iload_n hb 5 dX1_distanceTo_4 rfl 3 rfl ?_
  refine r_istore [(5, .int (iI (((s : Nat) : Int)))), (0, .ref f), (1, .ref a), (2, .ref u), (3, .int (iI (((s : Nat) : Int)))), (4, .int (iI (((e : Nat) : Int))))] hb 7 6 dX1_distanceTo_5 rfl hnL (by decide) rfl ?_
  have lp : ∀ (d : Nat) (i : Nat) (wi : PW), e - i = d → (s ≤ i) → (i ≤ e ∨ i = s) → (fd wi f b0 b1 b2 eh) → (fr wi f (nQ x).length (edK (nQ x) D s (i - s))) → (nt wi a x) → (tx wi u 120 D) → (off w wi (f + 1) (f + 2)) → Wp S 7 [(5, .int (iI (((i : Nat) : Int)))), (0, .ref f), (1, .ref a), (2, .ref u), (3, .int (iI (((s : Nat) : Int)))), (4, .int (iI (((e : Nat) : Int))))] [] wi n 0 0 := by
    intro d
    induction d using Nat.strongRecOn with
    | _ d ih_lp =>
      intro i wi hd_lp hi hi2 fc hR hN hD hO
      obtain ⟨h0, tP, tQ, tS, hnum, hB, hE⟩ := id hN
      have q0 := tQ.1
      have d0 := hD.1
      refine r_iload hb 9 dX1_distanceTo_7 rfl 0 rfl ?_
      refine r_iload hb 11 dX1_distanceTo_9 rfl 5 rfl ?_
      refine r_icmp_ge hb 14 34 dX1_distanceTo_11 rfl (by decide) (by omega) (by omega) (fun c11 => ?_) (fun c11 => ?_)
      · refine r_aload_n hb 35 dX1_distanceTo_34 rfl 1 rfl ?_
        refine r_aload_n hb 36 dX1_distanceTo_35 rfl 2 rfl ?_
        refine r_get hb ho 39 dX1_distanceTo_36 rfl lk_X1_18 pf_X3_1 h0 rfl ?_
        refine r_callVR (st := []) hb ho 42 dX1_distanceTo_39 rfl ck_X1_34 (c_X1_endOfRow f (a + 3) (edK (nQ x) D s (i - s)) (nQ x) b0 b1 b2 eh fc hR tQ) rfl rfl (fc) rfl rfl (by rw [hR0]; exact ⟨Nat.le_of_ble_eq_true rfl, Nat.le_of_ble_eq_true rfl⟩) (Nat.le_of_ble_eq_true rfl) ⟨rfl, rfl⟩ (by rw [hR0]; exact Nat.zero_le _) (by rw [hR0]; exact Nat.zero_le _) ?_
        refine r_iret hS dX1_distanceTo_42 rfl rfl (Nat.zero_le _) (Nat.zero_le _) ?_
        exact ⟨_, rfl, by unfold edD; rw [show i - s = e - s by omega], rfl, ⟨_, (let ⟨g, k1, k2⟩ := hR; ⟨g, k1, fun j hj => k2 j (by omega)⟩)⟩, hO⟩
      · refine r_aload_n hb 15 dX1_distanceTo_14 rfl 1 rfl ?_
        refine r_aload_n hb 16 dX1_distanceTo_15 rfl 2 rfl ?_
        refine r_get hb ho 19 dX1_distanceTo_16 rfl lk_X1_18 pf_X3_1 h0 rfl ?_
        refine r_aload_n hb 20 dX1_distanceTo_19 rfl 3 rfl ?_
        refine r_iload hb 22 dX1_distanceTo_20 rfl 0 rfl ?_
        refine r_callVR (st := [.ref (a + 3), .ref f]) hb ho 25 dX1_distanceTo_22 rfl ck_X1_24 (c_X7_at (u) 120 D (((i : Nat) : Int)) hD (by omega) (by omega)) rfl rfl (d0) rfl rfl (by rw [hR0]; exact ⟨Nat.le_of_ble_eq_true rfl, Nat.le_of_ble_eq_true rfl⟩) (Nat.le_of_ble_eq_true rfl) ⟨rfl, rfl⟩ (by rw [hR0]; exact Nat.zero_le _) (by rw [hR0]; exact Nat.zero_le _) ?_
        refine r_topv (.int (D.getD i 0)) (by rw [textAt_nat (by omega)]) ?_
        refine r_callV0 (st := []) hb ho 28 dX1_distanceTo_25 rfl ck_X1_30 (c_X1_takeLetter f (a + 3) (edK (nQ x) D s (i - s)) (nQ x) (D.getD i 0) b0 b1 b2 eh fc hR tQ (by omega) (fun j hj => by have := edK_le (nQ x) D s (i - s) j; omega)) rfl rfl (fc) rfl rfl (by rw [hR0]; exact ⟨Nat.le_of_ble_eq_true rfl, Nat.le_of_ble_eq_true rfl⟩) (Nat.le_of_ble_eq_true rfl) ⟨rfl, rfl⟩ (by rw [hR0]; exact Nat.zero_le _) (by rw [hR0]; exact Nat.zero_le _) (fun w_25 nw_25 qw_25 => ?_)
        obtain ⟨rfl, hR, ow_25⟩ := qw_25
        have fc : w_25 f = some (eO 1 [.ref (f + 1), .int (iI (b0)), .int (iI (b1)), .int (iI (b2)), .int (iI (eh))]) := (ow_25 _ (by omega)).trans fc
        have hN : nt w_25 a x := hN.off ow_25 (by omega)
        have h0 : w_25 a = some (eO 3 [.ref (a + 1), .ref (a + 3), .ref (a + 5), .int (iI (((nNum x : Nat) : Int))), .int (bI (nK x)), .int (iI (((nB x : Nat) : Int))), .int (iI (((nE x : Nat) : Int))), .int (nW x)]) := (ow_25 _ (by omega)).trans h0
        have tQ : tx w_25 (a + 3) 16 (nQ x) := tQ.off ow_25 (by omega)
        have q0 : w_25 (a + 3) = some (eO 7 [.ref (a + 3 + 1), .int (iI ((((nQ x).length : Nat) : Int)))]) := (ow_25 _ (by omega)).trans q0
        have hD : tx w_25 u 120 D := hD.off ow_25 (by omega)
        have d0 : w_25 u = some (eO 7 [.ref (u + 1), .int (iI (((D.length : Nat) : Int)))]) := (ow_25 _ (by omega)).trans d0
        refine r_iinc [(5, .int (iI (((i : Nat) : Int) + 1))), (0, .ref f), (1, .ref a), (2, .ref u), (3, .int (iI (((s : Nat) : Int)))), (4, .int (iI (((e : Nat) : Int))))] hb 31 6 0 dX1_distanceTo_28 rfl rfl hnL (by decide) (((i : Nat) : Int) + 1) (by omega) rfl ?_
        refine r_goto hb 7 dX1_distanceTo_31 (by decide) ?_
        refine r_lv [(5, .int (iI (((i + 1 : Nat)) : Int))), (0, .ref f), (1, .ref a), (2, .ref u), (3, .int (iI ((s : Nat) : Int))), (4, .int (iI ((e : Nat) : Int)))] [0, 1, 2, 3, 4, 5] rfl ?_
        refine ih_lp (e - (i + 1)) (by omega) (i + 1) _ rfl (by omega) (by omega) fc ?_ hN hD (hO.trans (ow_25.mono (by omega) (by omega)))
        rw [show i + 1 - s = (i - s) + 1 by omega]
        simp only [edK]
        rw [show s + (i - s) = i by omega]
        exact hR
  refine r_lv [(5, .int (iI (((s : Nat)) : Int))), (0, .ref f), (1, .ref a), (2, .ref u), (3, .int (iI ((s : Nat) : Int))), (4, .int (iI ((e : Nat) : Int)))] [0, 1, 2, 3, 4, 5] rfl ?_
  refine lp _ s _ rfl (Nat.le_refl _) (by omega) fc ?_ hN hD (ow_1.mono (by omega) (by omega))
  obtain ⟨g1, k1, k2⟩ := hR
  exact ⟨g1, k1, fun j hj => by rw [k2 j (by omega), Nat.sub_self]; rfl⟩

abbrev rm_X1_searchAt : Room := { frames := 3, cells := 0, slots := 0, locals := 69 }
set_option maxHeartbeats 4000000 in
set_option maxRecDepth 100000 in
theorem c_X1_searchAt (a u s : Nat) (x : Nt) (D : List Int32) (f m0 : Nat) (r0 : Nat → Nat) (b0 b1 b2 eh : Int) {w : PW} {n : Nat} (hF : fd w f b0 b1 b2 eh) (hR : fr w f m0 r0) (hN : nt w a x) (hD : tx w u 120 D) (hd1 : f + 2 ≤ a ∨ a + 7 ≤ f) (hd2 : f + 2 ≤ u ∨ u + 2 ≤ f) (hs : s < D.length) (hx : nOk x) : Ct1 yX1_searchAt cX1_searchAt 11 (some .int) rm_X1_searchAt [.ref f, .ref a, .ref u, .int (iI (((s : Nat) : Int)))] w n (fun v w1 n1 => v = .int (iI (gI (bA x D s))) ∧ n = n1 ∧ fd w1 f b0 b1 b2 (gE s (bA x D s)) ∧ (∃ r, fr w1 f 0 r) ∧ off w w1 f (f + 2)) := by
  obtain ⟨h0, tP, tQ, tS, hnum, hB, hE⟩ := id hN
  have fc := hF
  have q0 := tQ.1
  have d0 := hD.1
  have d1 := hD.2.1
  have q1 := tQ.2.1
  refine Ctr.of rfl (Nat.le_of_ble_eq_true rfl) fun S hS => ?_
  have hb : S.1.1 = cX1_searchAt := by rw [hS]; rfl
  have ho : S.1.2.1 = RX1 := by rw [hS]; rfl
  have hnL : S.1.2.2.1 = 11 := by rw [hS]; rfl
  have hR0 : S.2.1 = rm_X1_searchAt := by rw [hS]; rfl
  show Wp S 0 [(0, .ref f), (1, .ref a), (2, .ref u), (3, .int (iI (((s : Nat) : Int))))] [] w n 0 0
  refine r_aload_n hb 1 dX1_searchAt_0 rfl 1 rfl ?_
  refine r_get hb ho 4 dX1_searchAt_1 rfl lk_X1_18 pf_X3_1 h0 rfl ?_
  refine r_astore [(4, .ref (a + 3)), (0, .ref f), (1, .ref a), (2, .ref u), (3, .int (iI (((s : Nat) : Int))))] hb 6 11 dX1_searchAt_4 rfl hnL (by decide) rfl ?_
  refine r_iconst hb 7 dX1_searchAt_6 rfl ?_
  refine r_aload hb 9 dX1_searchAt_7 rfl 0 rfl ?_
  refine r_get hb ho 12 dX1_searchAt_9 rfl lk_X1_48 pf_X7_1 q0 rfl ?_
  refine r_iconst hb 13 dX1_searchAt_12 rfl ?_
  refine r_isubZ hb 14 ((((nQ x).length : Nat) : Int) - 3) dX1_searchAt_13 rfl (by omega) ?_
  refine r_max hb ho 17 dX1_searchAt_14 rfl ck_X1_58 (by rw [hR0]; exact Nat.le_of_ble_eq_true rfl) (by rw [hR0]; exact Nat.le_of_ble_eq_true rfl) (by rw [hR0]; exact Nat.zero_le _) (by rw [hR0]; exact Nat.zero_le _) (by omega) (by omega) (((max 1 ((nQ x).length - 3) : Nat) : Int)) (by omega) ?_
  refine r_istore [(5, .int (iI (((max 1 ((nQ x).length - 3) : Nat) : Int)))), (4, .ref (a + 3)), (0, .ref f), (1, .ref a), (2, .ref u), (3, .int (iI (((s : Nat) : Int))))] hb 19 11 dX1_searchAt_17 rfl hnL (by decide) rfl ?_
  refine r_aload hb 21 dX1_searchAt_19 rfl 1 rfl ?_
  refine r_get hb ho 24 dX1_searchAt_21 rfl lk_X1_48 pf_X7_1 q0 rfl ?_
  refine r_iconst hb 25 dX1_searchAt_24 rfl ?_
  refine r_iaddZ hb 26 ((((nQ x).length : Nat) : Int) + 3) dX1_searchAt_25 rfl (by omega) ?_
  refine r_aload_n hb 27 dX1_searchAt_26 rfl 4 rfl ?_
  refine r_get hb ho 30 dX1_searchAt_27 rfl lk_X1_48 pf_X7_1 d0 rfl ?_
  refine r_iload_n hb 31 dX1_searchAt_30 rfl 5 rfl ?_
  refine r_isubZ hb 32 ((((D.length - s : Nat) : Nat) : Int)) dX1_searchAt_31 rfl (by omega) ?_
  refine r_min hb ho 35 dX1_searchAt_32 rfl ck_X1_64 (by rw [hR0]; exact Nat.le_of_ble_eq_true rfl) (by rw [hR0]; exact Nat.le_of_ble_eq_true rfl) (by rw [hR0]; exact Nat.zero_le _) (by rw [hR0]; exact Nat.zero_le _) (by omega) (by omega) (((min ((nQ x).length + 3) (D.length - s) : Nat) : Int)) (by omega) ?_
  refine r_istore [(6, .int (iI (((min ((nQ x).length + 3) (D.length - s) : Nat) : Int)))), (5, .int (iI (((max 1 ((nQ x).length - 3) : Nat) : Int)))), (4, .ref (a + 3)), (0, .ref f), (1, .ref a), (2, .ref u), (3, .int (iI (((s : Nat) : Int))))] hb 37 11 dX1_searchAt_35 rfl hnL (by decide) rfl ?_
  refine r_sipush (-1005) hb 40 dX1_searchAt_37 rfl rfl ?_
  refine r_istore [(7, .int (iI (-1005))), (6, .int (iI (((min ((nQ x).length + 3) (D.length - s) : Nat) : Int)))), (5, .int (iI (((max 1 ((nQ x).length - 3) : Nat) : Int)))), (4, .ref (a + 3)), (0, .ref f), (1, .ref a), (2, .ref u), (3, .int (iI (((s : Nat) : Int))))] hb 42 11 dX1_searchAt_40 rfl hnL (by decide) rfl ?_
  refine r_aload_n hb 43 dX1_searchAt_42 rfl 4 rfl ?_
  refine r_sipush (-1005) hb 46 dX1_searchAt_43 rfl rfl ?_
  refine r_put hb ho 49 dX1_searchAt_46 rfl lk_X1_55 pf_X1_4 fc (Nat.le_of_ble_eq_true rfl) ⟨rfl, rfl⟩ (fun w_46 hw_46 => ?_)
  have ow_46 := pset_off hw_46
  have xw_46 : w_46 f = some (eO 1 [.ref (f + 1), .int (iI (b0)), .int (iI (b1)), .int (iI (b2)), .int (iI (-1005))]) := by rw [hw_46]; exact pset_eq _ _ _
  have hR : fr w_46 f m0 r0 := hR.off ow_46 (by omega)
  have hN : nt w_46 a x := hN.off ow_46 (by omega)
  have h0 : w_46 a = some (eO 3 [.ref (a + 1), .ref (a + 3), .ref (a + 5), .int (iI (((nNum x : Nat) : Int))), .int (bI (nK x)), .int (iI (((nB x : Nat) : Int))), .int (iI (((nE x : Nat) : Int))), .int (nW x)]) := (ow_46 _ (by omega)).trans h0
  have tQ : tx w_46 (a + 3) 16 (nQ x) := tQ.off ow_46 (by omega)
  have q0 : w_46 (a + 3) = some (eO 7 [.ref (a + 3 + 1), .int (iI ((((nQ x).length : Nat) : Int)))]) := (ow_46 _ (by omega)).trans q0
  have hD : tx w_46 u 120 D := hD.off ow_46 (by omega)
  have d0 : w_46 u = some (eO 7 [.ref (u + 1), .int (iI (((D.length : Nat) : Int)))]) := (ow_46 _ (by omega)).trans d0
  refine r_aload_n hb 50 dX1_searchAt_49 rfl 4 rfl ?_
  refine r_callV0 (st := []) hb ho 53 dX1_searchAt_50 rfl ck_X1_15 (c_X1_beginRow f m0 r0 b0 b1 b2 (-1005) xw_46 hR) rfl rfl (xw_46) rfl rfl (by rw [hR0]; exact ⟨Nat.le_of_ble_eq_true rfl, Nat.le_of_ble_eq_true rfl⟩) (Nat.le_of_ble_eq_true rfl) ⟨rfl, rfl⟩ (by rw [hR0]; exact Nat.zero_le _) (by rw [hR0]; exact Nat.zero_le _) (fun w_50 nw_50 qw_50 => ?_)
  obtain ⟨rfl, hR, ow_50⟩ := qw_50
  have xw_46 : w_50 f = some (eO 1 [.ref (f + 1), .int (iI (b0)), .int (iI (b1)), .int (iI (b2)), .int (iI (-1005))]) := (ow_50 _ (by omega)).trans xw_46
  have hN : nt w_50 a x := hN.off ow_50 (by omega)
  have h0 : w_50 a = some (eO 3 [.ref (a + 1), .ref (a + 3), .ref (a + 5), .int (iI (((nNum x : Nat) : Int))), .int (bI (nK x)), .int (iI (((nB x : Nat) : Int))), .int (iI (((nE x : Nat) : Int))), .int (nW x)]) := (ow_50 _ (by omega)).trans h0
  have tQ : tx w_50 (a + 3) 16 (nQ x) := tQ.off ow_50 (by omega)
  have q0 : w_50 (a + 3) = some (eO 7 [.ref (a + 3 + 1), .int (iI ((((nQ x).length : Nat) : Int)))]) := (ow_50 _ (by omega)).trans q0
  have hD : tx w_50 u 120 D := hD.off ow_50 (by omega)
  have d0 : w_50 u = some (eO 7 [.ref (u + 1), .int (iI (((D.length : Nat) : Int)))]) := (ow_50 _ (by omega)).trans d0
  refine r_iconst hb 54 dX1_searchAt_53 rfl ?_
  refine r_istore [(8, .int (iI 1)), (7, .int (iI (-1005))), (6, .int (iI (((min ((nQ x).length + 3) (D.length - s) : Nat) : Int)))), (5, .int (iI (((max 1 ((nQ x).length - 3) : Nat) : Int)))), (4, .ref (a + 3)), (0, .ref f), (1, .ref a), (2, .ref u), (3, .int (iI (((s : Nat) : Int))))] hb 56 11 dX1_searchAt_54 rfl hnL (by decide) rfl ?_
  have lp : ∀ (d : Nat) (k : Nat) (wi : PW), min ((nQ x).length + 3) (D.length - s) - k = d → (k ≤ min ((nQ x).length + 3) (D.length - s)) → (fd wi f b0 b1 b2 (gE s (bAt x D s k))) → (fr wi f (nQ x).length (edK (nQ x) D s k)) → (nt wi a x) → (tx wi u 120 D) → (off w wi f (f + 2)) → Wp S 56 [(8, .int (iI (((k : Nat) : Int) + 1))), (7, .int (iI ((gI (bAt x D s k))))), (6, .int (iI (((min ((nQ x).length + 3) (D.length - s) : Nat) : Int)))), (5, .int (iI (((max 1 ((nQ x).length - 3) : Nat) : Int)))), (4, .ref (a + 3)), (0, .ref f), (1, .ref a), (2, .ref u), (3, .int (iI (((s : Nat) : Int))))] [] wi n 0 0 := by
    intro d
    induction d using Nat.strongRecOn with
    | _ d ih_lp =>
      intro k wi hd_lp hk fc hR hN hD hO
      obtain ⟨h0, tP, tQ, tS, hnum, hB, hE⟩ := id hN
      have q0 := tQ.1
      have d0 := hD.1
      have hgb := gIt_bd hx D (s := s) (by omega) (k := k) (by omega)
      refine r_iload hb 58 dX1_searchAt_56 rfl 0 rfl ?_
      refine r_iload hb 60 dX1_searchAt_58 rfl 2 rfl ?_
      refine r_icmp_gt hb 63 129 dX1_searchAt_60 rfl (by decide) (by omega) (by omega) (fun c60 => ?_) (fun c60 => ?_)
      · refine r_iload hb 131 dX1_searchAt_129 rfl 1 rfl ?_
        refine r_iret hS dX1_searchAt_131 rfl rfl (Nat.zero_le _) (Nat.zero_le _) ?_
        have ek : k = min ((nQ x).length + 3) (D.length - s) := by omega
        subst ek
        exact ⟨_, rfl, rfl, rfl, fc, ⟨_, (let ⟨g, k1, k2⟩ := hR; ⟨g, k1, fun j hj => k2 j (by omega)⟩)⟩, hO⟩
      · refine r_iload_n hb 64 dX1_searchAt_63 rfl 8 rfl ?_
        refine r_iload hb 66 dX1_searchAt_64 rfl 0 rfl ?_
        refine r_iaddZ hb 67 ((((s + (k + 1) : Nat) : Nat) : Int)) dX1_searchAt_66 rfl (by omega) ?_
        refine r_istore [(9, .int (iI ((((s + (k + 1) : Nat) : Nat) : Int)))), (8, .int (iI (((k : Nat) : Int) + 1))), (7, .int (iI ((gI (bAt x D s k))))), (6, .int (iI (((min ((nQ x).length + 3) (D.length - s) : Nat) : Int)))), (5, .int (iI (((max 1 ((nQ x).length - 3) : Nat) : Int)))), (4, .ref (a + 3)), (0, .ref f), (1, .ref a), (2, .ref u), (3, .int (iI (((s : Nat) : Int))))] hb 69 11 dX1_searchAt_67 rfl hnL (by decide) rfl ?_
        refine r_aload_n hb 70 dX1_searchAt_69 rfl 6 rfl ?_
        refine r_aload hb 72 dX1_searchAt_70 rfl 5 rfl ?_
        refine r_aload_n hb 73 dX1_searchAt_72 rfl 8 rfl ?_
        refine r_iload hb 75 dX1_searchAt_73 rfl 0 rfl ?_
        refine r_iconst hb 76 dX1_searchAt_75 rfl ?_
        refine r_isubZ hb 77 ((((s + k : Nat) : Nat) : Int)) dX1_searchAt_76 rfl (by omega) ?_
        refine r_callVR (st := [.ref (a + 3), .ref f]) hb ho 80 dX1_searchAt_77 rfl ck_X1_24 (c_X7_at (u) 120 D ((((s + k : Nat) : Nat) : Int)) hD (by omega) (by omega)) rfl rfl (d0) rfl rfl (by rw [hR0]; exact ⟨Nat.le_of_ble_eq_true rfl, Nat.le_of_ble_eq_true rfl⟩) (Nat.le_of_ble_eq_true rfl) ⟨rfl, rfl⟩ (by rw [hR0]; exact Nat.zero_le _) (by rw [hR0]; exact Nat.zero_le _) ?_
        refine r_topv (.int (D.getD (s + k) 0)) (by rw [textAt_nat (by omega)]) ?_
        refine r_callV0 (st := []) hb ho 83 dX1_searchAt_80 rfl ck_X1_30 (c_X1_takeLetter f (a + 3) (edK (nQ x) D s k) (nQ x) (D.getD (s + k) 0) b0 b1 b2 _ fc hR tQ (by omega) (fun j hj => by have := edK_le (nQ x) D s k j; omega)) rfl rfl (fc) rfl rfl (by rw [hR0]; exact ⟨Nat.le_of_ble_eq_true rfl, Nat.le_of_ble_eq_true rfl⟩) (Nat.le_of_ble_eq_true rfl) ⟨rfl, rfl⟩ (by rw [hR0]; exact Nat.zero_le _) (by rw [hR0]; exact Nat.zero_le _) (fun w_80 nw_80 qw_80 => ?_)
        obtain ⟨rfl, hR, ow_80⟩ := qw_80
        have fc : w_80 f = some (eO 1 [.ref (f + 1), .int (iI (b0)), .int (iI (b1)), .int (iI (b2)), .int (iI (((gE s (bAt x D s k)))))]) := (ow_80 _ (by omega)).trans fc
        have hN : nt w_80 a x := hN.off ow_80 (by omega)
        have h0 : w_80 a = some (eO 3 [.ref (a + 1), .ref (a + 3), .ref (a + 5), .int (iI (((nNum x : Nat) : Int))), .int (bI (nK x)), .int (iI (((nB x : Nat) : Int))), .int (iI (((nE x : Nat) : Int))), .int (nW x)]) := (ow_80 _ (by omega)).trans h0
        have tQ : tx w_80 (a + 3) 16 (nQ x) := tQ.off ow_80 (by omega)
        have q0 : w_80 (a + 3) = some (eO 7 [.ref (a + 3 + 1), .int (iI ((((nQ x).length : Nat) : Int)))]) := (ow_80 _ (by omega)).trans q0
        have hD : tx w_80 u 120 D := hD.off ow_80 (by omega)
        have d0 : w_80 u = some (eO 7 [.ref (u + 1), .int (iI (((D.length : Nat) : Int)))]) := (ow_80 _ (by omega)).trans d0
        refine r_iload hb 85 dX1_searchAt_83 rfl 1 rfl ?_
        refine r_iload hb 87 dX1_searchAt_85 rfl 4 rfl ?_
        refine r_icmp_lt hb 90 123 dX1_searchAt_87 rfl (by decide) (by omega) (by omega) (fun c87 => ?_) (fun c87 => ?_)
        · refine r_iinc [(8, .int (iI (((k : Nat) : Int) + 2))), (9, .int (iI ((((s + (k + 1) : Nat) : Nat) : Int)))), (7, .int (iI ((gI (bAt x D s k))))), (6, .int (iI (((min ((nQ x).length + 3) (D.length - s) : Nat) : Int)))), (5, .int (iI (((max 1 ((nQ x).length - 3) : Nat) : Int)))), (4, .ref (a + 3)), (0, .ref f), (1, .ref a), (2, .ref u), (3, .int (iI (((s : Nat) : Int))))] hb 126 11 1 dX1_searchAt_123 rfl rfl hnL (by decide) (((k : Nat) : Int) + 2) (by omega) rfl ?_
          refine r_goto hb 56 dX1_searchAt_126 (by decide) ?_
          have hk1 : k + 1 ≤ min ((nQ x).length + 3) (D.length - s) := by omega
          have e := bAt_short (x := x) (D := D) (s := s) (k := k) (by omega)
          refine r_lv [(8, .int (iI (((k + 1 : Nat) : Int) + 1))), (7, .int (iI (gI (bAt x D s (k + 1))))), (6, .int (iI ((min ((nQ x).length + 3) (D.length - s) : Nat) : Int))), (5, .int (iI ((max 1 ((nQ x).length - 3) : Nat) : Int))), (4, .ref (a + 3)), (0, .ref f), (1, .ref a), (2, .ref u), (3, .int (iI ((s : Nat) : Int)))] [0, 2, 3, 4, 5, 6, 7, 8, 9] (by rw [e]; rfl) ?_
          refine ih_lp (min ((nQ x).length + 3) (D.length - s) - (k + 1)) (by omega) (k + 1) _ rfl (by omega) (by rw [e]; exact fc) hR hN hD (hO.trans (ow_80.mono (by omega) (by omega)))
        · refine r_aload_n hb 91 dX1_searchAt_90 rfl 7 rfl ?_
          refine r_aload_n hb 92 dX1_searchAt_91 rfl 6 rfl ?_
          refine r_aload hb 94 dX1_searchAt_92 rfl 5 rfl ?_
          refine r_callVR (st := [.ref a]) hb ho 97 dX1_searchAt_94 rfl ck_X1_34 (c_X1_endOfRow f (a + 3) (edK (nQ x) D s (k + 1)) (nQ x) b0 b1 b2 _ fc hR tQ) rfl rfl (fc) rfl rfl (by rw [hR0]; exact ⟨Nat.le_of_ble_eq_true rfl, Nat.le_of_ble_eq_true rfl⟩) (Nat.le_of_ble_eq_true rfl) ⟨rfl, rfl⟩ (by rw [hR0]; exact Nat.zero_le _) (by rw [hR0]; exact Nat.zero_le _) ?_
          refine r_aload_n hb 98 dX1_searchAt_97 rfl 8 rfl ?_
          refine r_iload_n hb 99 dX1_searchAt_98 rfl 9 rfl ?_
          refine r_iload hb 101 dX1_searchAt_99 rfl 0 rfl ?_
          have hek := edK_le (nQ x) D s (k + 1) (nQ x).length
          have hsc := scN_bd hx D (s := s) (e := s + (k + 1)) (d := edK (nQ x) D s (k + 1) (nQ x).length) (by omega) (by omega)
          refine r_callVR (st := []) hb ho 104 dX1_searchAt_101 rfl ck_X1_67 (c_X3_scoreOf a u (edK (nQ x) D s (k + 1) (nQ x).length) s (s + (k + 1)) x D hN hD (by omega) (by omega) (by omega) hx.2.2.2.2.1 hx.2.2.2.2.2) rfl rfl (h0) rfl rfl (by rw [hR0]; exact ⟨Nat.le_of_ble_eq_true rfl, Nat.le_of_ble_eq_true rfl⟩) (Nat.le_of_ble_eq_true rfl) ⟨rfl, rfl⟩ (by rw [hR0]; exact Nat.zero_le _) (by rw [hR0]; exact Nat.zero_le _) ?_
          refine r_istore [(10, .int (iI ((scN x D s (s + (k + 1)) (edK (nQ x) D s (k + 1) (nQ x).length))))), (9, .int (iI ((((s + (k + 1) : Nat) : Nat) : Int)))), (8, .int (iI (((k : Nat) : Int) + 1))), (7, .int (iI ((gI (bAt x D s k))))), (6, .int (iI (((min ((nQ x).length + 3) (D.length - s) : Nat) : Int)))), (5, .int (iI (((max 1 ((nQ x).length - 3) : Nat) : Int)))), (4, .ref (a + 3)), (0, .ref f), (1, .ref a), (2, .ref u), (3, .int (iI (((s : Nat) : Int))))] hb 106 11 dX1_searchAt_104 rfl hnL (by decide) rfl ?_
          refine r_iload hb 108 dX1_searchAt_106 rfl 0 rfl ?_
          refine r_iload hb 110 dX1_searchAt_108 rfl 3 rfl ?_
          refine r_icmp_le hb 113 123 dX1_searchAt_110 rfl (by decide) (by omega) (by omega) (fun c110 => ?_) (fun c110 => ?_)
          · refine r_iinc [(8, .int (iI (((k : Nat) : Int) + 2))), (10, .int (iI ((scN x D s (s + (k + 1)) (edK (nQ x) D s (k + 1) (nQ x).length))))), (9, .int (iI ((((s + (k + 1) : Nat) : Nat) : Int)))), (7, .int (iI ((gI (bAt x D s k))))), (6, .int (iI (((min ((nQ x).length + 3) (D.length - s) : Nat) : Int)))), (5, .int (iI (((max 1 ((nQ x).length - 3) : Nat) : Int)))), (4, .ref (a + 3)), (0, .ref f), (1, .ref a), (2, .ref u), (3, .int (iI (((s : Nat) : Int))))] hb 126 11 2 dX1_searchAt_123 rfl rfl hnL (by decide) (((k : Nat) : Int) + 2) (by omega) rfl ?_
            refine r_goto hb 56 dX1_searchAt_126 (by decide) ?_
            have hk1 : k + 1 ≤ min ((nQ x).length + 3) (D.length - s) := by omega
            have e := bAt_keep (D := D) (s := s) (k := k) hx (by omega) (by omega) (by omega) (by omega)
            refine r_lv [(8, .int (iI (((k + 1 : Nat) : Int) + 1))), (7, .int (iI (gI (bAt x D s (k + 1))))), (6, .int (iI ((min ((nQ x).length + 3) (D.length - s) : Nat) : Int))), (5, .int (iI ((max 1 ((nQ x).length - 3) : Nat) : Int))), (4, .ref (a + 3)), (0, .ref f), (1, .ref a), (2, .ref u), (3, .int (iI ((s : Nat) : Int)))] [0, 3, 4, 5, 6, 7, 8, 9, 10] (by rw [e]; rfl) ?_
            refine ih_lp (min ((nQ x).length + 3) (D.length - s) - (k + 1)) (by omega) (k + 1) _ rfl (by omega) (by rw [e]; exact fc) hR hN hD (hO.trans (ow_80.mono (by omega) (by omega)))
          · refine r_iload hb 115 dX1_searchAt_113 rfl 0 rfl ?_
            refine r_istore [(7, .int (iI ((scN x D s (s + (k + 1)) (edK (nQ x) D s (k + 1) (nQ x).length))))), (10, .int (iI ((scN x D s (s + (k + 1)) (edK (nQ x) D s (k + 1) (nQ x).length))))), (9, .int (iI ((((s + (k + 1) : Nat) : Nat) : Int)))), (8, .int (iI (((k : Nat) : Int) + 1))), (6, .int (iI (((min ((nQ x).length + 3) (D.length - s) : Nat) : Int)))), (5, .int (iI (((max 1 ((nQ x).length - 3) : Nat) : Int)))), (4, .ref (a + 3)), (0, .ref f), (1, .ref a), (2, .ref u), (3, .int (iI (((s : Nat) : Int))))] hb 117 11 dX1_searchAt_115 rfl hnL (by decide) rfl ?_
            refine r_aload_n hb 118 dX1_searchAt_117 rfl 7 rfl ?_
            refine r_iload hb 120 dX1_searchAt_118 rfl 2 rfl ?_
            refine r_put hb ho 123 dX1_searchAt_120 rfl lk_X1_55 pf_X1_4 fc (Nat.le_of_ble_eq_true rfl) ⟨rfl, rfl⟩ (fun w_120 hw_120 => ?_)
            have ow_120 := pset_off hw_120
            have xw_120 : w_120 f = some (eO 1 [.ref (f + 1), .int (iI (b0)), .int (iI (b1)), .int (iI (b2)), .int (iI ((((s + (k + 1) : Nat) : Nat) : Int)))]) := by rw [hw_120]; exact pset_eq _ _ _
            have hR : fr w_120 f (nQ x).length (edK (nQ x) D s (k + 1)) := hR.off ow_120 (by omega)
            have hN : nt w_120 a x := hN.off ow_120 (by omega)
            have h0 : w_120 a = some (eO 3 [.ref (a + 1), .ref (a + 3), .ref (a + 5), .int (iI (((nNum x : Nat) : Int))), .int (bI (nK x)), .int (iI (((nB x : Nat) : Int))), .int (iI (((nE x : Nat) : Int))), .int (nW x)]) := (ow_120 _ (by omega)).trans h0
            have tQ : tx w_120 (a + 3) 16 (nQ x) := tQ.off ow_120 (by omega)
            have q0 : w_120 (a + 3) = some (eO 7 [.ref (a + 3 + 1), .int (iI ((((nQ x).length : Nat) : Int)))]) := (ow_120 _ (by omega)).trans q0
            have hD : tx w_120 u 120 D := hD.off ow_120 (by omega)
            have d0 : w_120 u = some (eO 7 [.ref (u + 1), .int (iI (((D.length : Nat) : Int)))]) := (ow_120 _ (by omega)).trans d0
            refine r_iinc [(8, .int (iI (((k : Nat) : Int) + 2))), (7, .int (iI ((scN x D s (s + (k + 1)) (edK (nQ x) D s (k + 1) (nQ x).length))))), (10, .int (iI ((scN x D s (s + (k + 1)) (edK (nQ x) D s (k + 1) (nQ x).length))))), (9, .int (iI ((((s + (k + 1) : Nat) : Nat) : Int)))), (6, .int (iI (((min ((nQ x).length + 3) (D.length - s) : Nat) : Int)))), (5, .int (iI (((max 1 ((nQ x).length - 3) : Nat) : Int)))), (4, .ref (a + 3)), (0, .ref f), (1, .ref a), (2, .ref u), (3, .int (iI (((s : Nat) : Int))))] hb 126 11 3 dX1_searchAt_123 rfl rfl hnL (by decide) (((k : Nat) : Int) + 2) (by omega) rfl ?_
            refine r_goto hb 56 dX1_searchAt_126 (by decide) ?_
            have hk1 : k + 1 ≤ min ((nQ x).length + 3) (D.length - s) := by omega
            have e := bAt_up (D := D) (s := s) (k := k) hx (by omega) (by omega) (by omega) (by omega)
            refine r_lv [(8, .int (iI (((k + 1 : Nat) : Int) + 1))), (7, .int (iI (gI (bAt x D s (k + 1))))), (6, .int (iI ((min ((nQ x).length + 3) (D.length - s) : Nat) : Int))), (5, .int (iI ((max 1 ((nQ x).length - 3) : Nat) : Int))), (4, .ref (a + 3)), (0, .ref f), (1, .ref a), (2, .ref u), (3, .int (iI ((s : Nat) : Int)))] [0, 1, 4, 5, 6, 7, 8, 9, 10] (by rw [e]; rfl) ?_
            refine ih_lp (min ((nQ x).length + 3) (D.length - s) - (k + 1)) (by omega) (k + 1) _ rfl (by omega) (by rw [e]; exact xw_120) hR hN hD ((hO.trans (ow_80.mono (by omega) (by omega))).trans (ow_120.mono (by omega) (by omega)))
  refine r_lv [(8, .int (iI (((0 : Nat) : Int) + 1))), (7, .int (iI (gI (bAt x D s 0)))), (6, .int (iI ((min ((nQ x).length + 3) (D.length - s) : Nat) : Int))), (5, .int (iI ((max 1 ((nQ x).length - 3) : Nat) : Int))), (4, .ref (a + 3)), (0, .ref f), (1, .ref a), (2, .ref u), (3, .int (iI ((s : Nat) : Int)))] [0, 1, 2, 3, 4, 5, 6, 7, 8] rfl ?_
  refine lp _ 0 _ rfl (Nat.zero_le _) xw_46 ?_ hN hD (((ow_46.mono (by omega) (by omega))).trans (ow_50.mono (by omega) (by omega)))
  obtain ⟨g1, k1, k2⟩ := hR
  exact ⟨g1, k1, fun j hj => by rw [k2 j (by omega)]; rfl⟩

abbrev rm_X1_search : Room := { frames := 4, cells := 0, slots := 0, locals := 99 }
set_option maxHeartbeats 4000000 in
set_option maxRecDepth 100000 in
theorem c_X1_search (a u : Nat) (x : Nt) (D : List Int32) (f m0 : Nat) (r0 : Nat → Nat) (b0 b1 b2 eh : Int) {w : PW} {n : Nat} (hF : fd w f b0 b1 b2 eh) (hR : fr w f m0 r0) (hN : nt w a x) (hD : tx w u 120 D) (hd1 : f + 2 ≤ a ∨ a + 7 ≤ f) (hd2 : f + 2 ≤ u ∨ u + 2 ≤ f) (hx : nOk x) : Ct0 yX1_search cX1_search 5 none rm_X1_search [.ref f, .ref a, .ref u] w n (fun w1 n1 => n = n1 ∧ (∃ e2, fd w1 f (gB0 (fB x D)) (gB1 (fB x D)) (gB2 (fB x D)) e2) ∧ (∃ r, fr w1 f 0 r) ∧ off w w1 f (f + 2)) := by
  obtain ⟨h0, tP, tQ, tS, hnum, hB, hE⟩ := id hN
  have fc := hF
  have q0 := tQ.1
  have d0 := hD.1
  have d1 := hD.2.1
  have q1 := tQ.2.1
  refine Ctr.of rfl (Nat.le_of_ble_eq_true rfl) fun S hS => ?_
  have hb : S.1.1 = cX1_search := by rw [hS]; rfl
  have ho : S.1.2.1 = RX1 := by rw [hS]; rfl
  have hnL : S.1.2.2.1 = 5 := by rw [hS]; rfl
  have hR0 : S.2.1 = rm_X1_search := by rw [hS]; rfl
  show Wp S 0 [(0, .ref f), (1, .ref a), (2, .ref u)] [] w n 0 0
  refine r_aload_n hb 1 dX1_search_0 rfl 0 rfl ?_
  refine r_sipush (-1005) hb 4 dX1_search_1 rfl rfl ?_
  refine r_put hb ho 7 dX1_search_4 rfl lk_X1_38 pf_X1_1 fc (Nat.le_of_ble_eq_true rfl) ⟨rfl, rfl⟩ (fun w_4 hw_4 => ?_)
  have ow_4 := pset_off hw_4
  have xw_4 : w_4 f = some (eO 1 [.ref (f + 1), .int (iI (-1005)), .int (iI (b1)), .int (iI (b2)), .int (iI (eh))]) := by rw [hw_4]; exact pset_eq _ _ _
  have hR : fr w_4 f m0 r0 := hR.off ow_4 (by omega)
  have hN : nt w_4 a x := hN.off ow_4 (by omega)
  have h0 : w_4 a = some (eO 3 [.ref (a + 1), .ref (a + 3), .ref (a + 5), .int (iI (((nNum x : Nat) : Int))), .int (bI (nK x)), .int (iI (((nB x : Nat) : Int))), .int (iI (((nE x : Nat) : Int))), .int (nW x)]) := (ow_4 _ (by omega)).trans h0
  have tQ : tx w_4 (a + 3) 16 (nQ x) := tQ.off ow_4 (by omega)
  have q0 : w_4 (a + 3) = some (eO 7 [.ref (a + 3 + 1), .int (iI ((((nQ x).length : Nat) : Int)))]) := (ow_4 _ (by omega)).trans q0
  have hD : tx w_4 u 120 D := hD.off ow_4 (by omega)
  have d0 : w_4 u = some (eO 7 [.ref (u + 1), .int (iI (((D.length : Nat) : Int)))]) := (ow_4 _ (by omega)).trans d0
  refine r_aload_n hb 8 dX1_search_7 rfl 0 rfl ?_
  refine r_sipush (-1005) hb 11 dX1_search_8 rfl rfl ?_
  refine r_put hb ho 14 dX1_search_11 rfl lk_X1_42 pf_X1_2 xw_4 (Nat.le_of_ble_eq_true rfl) ⟨rfl, rfl⟩ (fun w_11 hw_11 => ?_)
  have ow_11 := pset_off hw_11
  have xw_11 : w_11 f = some (eO 1 [.ref (f + 1), .int (iI (-1005)), .int (iI (-1005)), .int (iI (b2)), .int (iI (eh))]) := by rw [hw_11]; exact pset_eq _ _ _
  have hR : fr w_11 f m0 r0 := hR.off ow_11 (by omega)
  have hN : nt w_11 a x := hN.off ow_11 (by omega)
  have h0 : w_11 a = some (eO 3 [.ref (a + 1), .ref (a + 3), .ref (a + 5), .int (iI (((nNum x : Nat) : Int))), .int (bI (nK x)), .int (iI (((nB x : Nat) : Int))), .int (iI (((nE x : Nat) : Int))), .int (nW x)]) := (ow_11 _ (by omega)).trans h0
  have tQ : tx w_11 (a + 3) 16 (nQ x) := tQ.off ow_11 (by omega)
  have q0 : w_11 (a + 3) = some (eO 7 [.ref (a + 3 + 1), .int (iI ((((nQ x).length : Nat) : Int)))]) := (ow_11 _ (by omega)).trans q0
  have hD : tx w_11 u 120 D := hD.off ow_11 (by omega)
  have d0 : w_11 u = some (eO 7 [.ref (u + 1), .int (iI (((D.length : Nat) : Int)))]) := (ow_11 _ (by omega)).trans d0
  refine r_aload_n hb 15 dX1_search_14 rfl 0 rfl ?_
  refine r_sipush (-1005) hb 18 dX1_search_15 rfl rfl ?_
  refine r_put hb ho 21 dX1_search_18 rfl lk_X1_45 pf_X1_3 xw_11 (Nat.le_of_ble_eq_true rfl) ⟨rfl, rfl⟩ (fun w_18 hw_18 => ?_)
  have ow_18 := pset_off hw_18
  have xw_18 : w_18 f = some (eO 1 [.ref (f + 1), .int (iI (-1005)), .int (iI (-1005)), .int (iI (-1005)), .int (iI (eh))]) := by rw [hw_18]; exact pset_eq _ _ _
  have hR : fr w_18 f m0 r0 := hR.off ow_18 (by omega)
  have hN : nt w_18 a x := hN.off ow_18 (by omega)
  have h0 : w_18 a = some (eO 3 [.ref (a + 1), .ref (a + 3), .ref (a + 5), .int (iI (((nNum x : Nat) : Int))), .int (bI (nK x)), .int (iI (((nB x : Nat) : Int))), .int (iI (((nE x : Nat) : Int))), .int (nW x)]) := (ow_18 _ (by omega)).trans h0
  have tQ : tx w_18 (a + 3) 16 (nQ x) := tQ.off ow_18 (by omega)
  have q0 : w_18 (a + 3) = some (eO 7 [.ref (a + 3 + 1), .int (iI ((((nQ x).length : Nat) : Int)))]) := (ow_18 _ (by omega)).trans q0
  have hD : tx w_18 u 120 D := hD.off ow_18 (by omega)
  have d0 : w_18 u = some (eO 7 [.ref (u + 1), .int (iI (((D.length : Nat) : Int)))]) := (ow_18 _ (by omega)).trans d0
  refine r_iconst hb 22 dX1_search_21 rfl ?_
  refine r_istore_n [(3, .int (iI 0)), (0, .ref f), (1, .ref a), (2, .ref u)] hb 23 5 dX1_search_22 rfl rfl hnL (by decide) rfl ?_
  have lp : ∀ (d : Nat) (s : Nat) (wi : PW) (ei : Int) (ri : Nat → Nat), D.length - s = d → (s ≤ D.length) → (fd wi f (gB0 (fBt x D s)) (gB1 (fBt x D s)) (gB2 (fBt x D s)) ei) → (fr wi f 0 ri) → (nt wi a x) → (tx wi u 120 D) → (off w wi f (f + 2)) → Wp S 23 [(3, .int (iI (((s : Nat) : Int)))), (0, .ref f), (1, .ref a), (2, .ref u)] [] wi n 0 0 := by
    intro d
    induction d using Nat.strongRecOn with
    | _ d ih_lp =>
      intro s wi ei ri hd_lp hs fc hR hN hD hO
      obtain ⟨h0, tP, tQ, tS, hnum, hB, hE⟩ := id hN
      have q0 := tQ.1
      have d0 := hD.1
      have hgb := gB0_bd hx D (s := s) (by omega)
      have hga := gI_bd hx D (s := s) (by omega)
      refine r_iload_n hb 24 dX1_search_23 rfl 0 rfl ?_
      refine r_aload_n hb 25 dX1_search_24 rfl 3 rfl ?_
      refine r_get hb ho 28 dX1_search_25 rfl lk_X1_48 pf_X7_1 d0 rfl ?_
      refine r_icmp_ge hb 31 74 dX1_search_28 rfl (by decide) (by omega) (by omega) (fun c28 => ?_) (fun c28 => ?_)
      · refine r_vret hS dX1_search_74 rfl (Nat.zero_le _) (Nat.zero_le _) ?_
        have es : s = D.length := by omega
        subst es
        exact ⟨rfl, rfl, ⟨_, fc⟩, ⟨_, hR⟩, hO⟩
      · refine r_aload_n hb 32 dX1_search_31 rfl 1 rfl ?_
        refine r_aload_n hb 33 dX1_search_32 rfl 2 rfl ?_
        refine r_aload_n hb 34 dX1_search_33 rfl 3 rfl ?_
        refine r_iload_n hb 35 dX1_search_34 rfl 0 rfl ?_
        refine r_callV1 (st := []) hb ho 38 dX1_search_35 rfl ck_X1_51 (c_X1_searchAt a u s x D f 0 ri (gB0 (fBt x D s)) (gB1 (fBt x D s)) (gB2 (fBt x D s)) ei fc hR hN hD hd1 hd2 (by omega) hx) rfl rfl (fc) rfl rfl (by rw [hR0]; exact ⟨Nat.le_of_ble_eq_true rfl, Nat.le_of_ble_eq_true rfl⟩) (Nat.le_of_ble_eq_true rfl) ⟨rfl, rfl⟩ (by rw [hR0]; exact Nat.zero_le _) (by rw [hR0]; exact Nat.zero_le _) (fun vw_35 w_35 nw_35 qw_35 => ?_)
        obtain ⟨rfl, rfl, fc, ⟨rj, hR⟩, ow_35⟩ := qw_35
        have hN : nt w_35 a x := hN.off ow_35 (by omega)
        have h0 : w_35 a = some (eO 3 [.ref (a + 1), .ref (a + 3), .ref (a + 5), .int (iI (((nNum x : Nat) : Int))), .int (bI (nK x)), .int (iI (((nB x : Nat) : Int))), .int (iI (((nE x : Nat) : Int))), .int (nW x)]) := (ow_35 _ (by omega)).trans h0
        have tQ : tx w_35 (a + 3) 16 (nQ x) := tQ.off ow_35 (by omega)
        have q0 : w_35 (a + 3) = some (eO 7 [.ref (a + 3 + 1), .int (iI ((((nQ x).length : Nat) : Int)))]) := (ow_35 _ (by omega)).trans q0
        have hD : tx w_35 u 120 D := hD.off ow_35 (by omega)
        have d0 : w_35 u = some (eO 7 [.ref (u + 1), .int (iI (((D.length : Nat) : Int)))]) := (ow_35 _ (by omega)).trans d0
        refine r_istore [(4, .int (iI ((gI (bA x D s))))), (3, .int (iI (((s : Nat) : Int)))), (0, .ref f), (1, .ref a), (2, .ref u)] hb 40 5 dX1_search_38 rfl hnL (by decide) rfl ?_
        refine r_iload hb 42 dX1_search_40 rfl 0 rfl ?_
        refine r_aload_n hb 43 dX1_search_42 rfl 2 rfl ?_
        refine r_get hb ho 46 dX1_search_43 rfl lk_X1_38 pf_X1_1 fc rfl ?_
        refine r_icmp_le hb 49 68 dX1_search_46 rfl (by decide) (by omega) (by omega) (fun c46 => ?_) (fun c46 => ?_)
        · refine r_iinc [(3, .int (iI (((s : Nat) : Int) + 1))), (4, .int (iI ((gI (bA x D s))))), (0, .ref f), (1, .ref a), (2, .ref u)] hb 71 5 1 dX1_search_68 rfl rfl hnL (by decide) (((s : Nat) : Int) + 1) (by omega) rfl ?_
          refine r_goto hb 23 dX1_search_71 (by decide) ?_
          have e := fBt_keep hx (by omega) (by omega : gI (bA x D s) ≤ gB0 (fBt x D s))
          refine r_lv [(3, .int (iI (((s + 1 : Nat)) : Int))), (0, .ref f), (1, .ref a), (2, .ref u)] [0, 2, 3, 4] rfl ?_
          exact ih_lp (D.length - (s + 1)) (by omega) (s + 1) _ _ _ rfl (by omega) (by rw [e]; exact fc) hR hN hD (hO.trans (ow_35.mono (by omega) (by omega)))
        · refine r_aload_n hb 50 dX1_search_49 rfl 2 rfl ?_
          refine r_iload hb 52 dX1_search_50 rfl 0 rfl ?_
          refine r_put hb ho 55 dX1_search_52 rfl lk_X1_38 pf_X1_1 fc (Nat.le_of_ble_eq_true rfl) ⟨rfl, rfl⟩ (fun w_52 hw_52 => ?_)
          have ow_52 := pset_off hw_52
          have xw_52 : w_52 f = some (eO 1 [.ref (f + 1), .int (iI ((gI (bA x D s)))), .int (iI (((gB1 (fBt x D s))))), .int (iI (((gB2 (fBt x D s))))), .int (iI (((gE s (bA x D s)))))]) := by rw [hw_52]; exact pset_eq _ _ _
          have hR : fr w_52 f 0 rj := hR.off ow_52 (by omega)
          have hN : nt w_52 a x := hN.off ow_52 (by omega)
          have h0 : w_52 a = some (eO 3 [.ref (a + 1), .ref (a + 3), .ref (a + 5), .int (iI (((nNum x : Nat) : Int))), .int (bI (nK x)), .int (iI (((nB x : Nat) : Int))), .int (iI (((nE x : Nat) : Int))), .int (nW x)]) := (ow_52 _ (by omega)).trans h0
          have tQ : tx w_52 (a + 3) 16 (nQ x) := tQ.off ow_52 (by omega)
          have q0 : w_52 (a + 3) = some (eO 7 [.ref (a + 3 + 1), .int (iI ((((nQ x).length : Nat) : Int)))]) := (ow_52 _ (by omega)).trans q0
          have hD : tx w_52 u 120 D := hD.off ow_52 (by omega)
          have d0 : w_52 u = some (eO 7 [.ref (u + 1), .int (iI (((D.length : Nat) : Int)))]) := (ow_52 _ (by omega)).trans d0
          refine r_aload_n hb 56 dX1_search_55 rfl 2 rfl ?_
          refine r_iload_n hb 57 dX1_search_56 rfl 1 rfl ?_
          refine r_put hb ho 60 dX1_search_57 rfl lk_X1_42 pf_X1_2 xw_52 (Nat.le_of_ble_eq_true rfl) ⟨rfl, rfl⟩ (fun w_57 hw_57 => ?_)
          have ow_57 := pset_off hw_57
          have xw_57 : w_57 f = some (eO 1 [.ref (f + 1), .int (iI ((gI (bA x D s)))), .int (iI (((s : Nat) : Int))), .int (iI (((gB2 (fBt x D s))))), .int (iI (((gE s (bA x D s)))))]) := by rw [hw_57]; exact pset_eq _ _ _
          have hR : fr w_57 f 0 rj := hR.off ow_57 (by omega)
          have hN : nt w_57 a x := hN.off ow_57 (by omega)
          have h0 : w_57 a = some (eO 3 [.ref (a + 1), .ref (a + 3), .ref (a + 5), .int (iI (((nNum x : Nat) : Int))), .int (bI (nK x)), .int (iI (((nB x : Nat) : Int))), .int (iI (((nE x : Nat) : Int))), .int (nW x)]) := (ow_57 _ (by omega)).trans h0
          have tQ : tx w_57 (a + 3) 16 (nQ x) := tQ.off ow_57 (by omega)
          have q0 : w_57 (a + 3) = some (eO 7 [.ref (a + 3 + 1), .int (iI ((((nQ x).length : Nat) : Int)))]) := (ow_57 _ (by omega)).trans q0
          have hD : tx w_57 u 120 D := hD.off ow_57 (by omega)
          have d0 : w_57 u = some (eO 7 [.ref (u + 1), .int (iI (((D.length : Nat) : Int)))]) := (ow_57 _ (by omega)).trans d0
          refine r_aload_n hb 61 dX1_search_60 rfl 2 rfl ?_
          refine r_aload_n hb 62 dX1_search_61 rfl 2 rfl ?_
          refine r_get hb ho 65 dX1_search_62 rfl lk_X1_55 pf_X1_4 xw_57 rfl ?_
          refine r_put hb ho 68 dX1_search_65 rfl lk_X1_45 pf_X1_3 xw_57 (Nat.le_of_ble_eq_true rfl) ⟨rfl, rfl⟩ (fun w_65 hw_65 => ?_)
          have ow_65 := pset_off hw_65
          have xw_65 : w_65 f = some (eO 1 [.ref (f + 1), .int (iI ((gI (bA x D s)))), .int (iI (((s : Nat) : Int))), .int (iI (((gE s (bA x D s))))), .int (iI (((gE s (bA x D s)))))]) := by rw [hw_65]; exact pset_eq _ _ _
          have hR : fr w_65 f 0 rj := hR.off ow_65 (by omega)
          have hN : nt w_65 a x := hN.off ow_65 (by omega)
          have h0 : w_65 a = some (eO 3 [.ref (a + 1), .ref (a + 3), .ref (a + 5), .int (iI (((nNum x : Nat) : Int))), .int (bI (nK x)), .int (iI (((nB x : Nat) : Int))), .int (iI (((nE x : Nat) : Int))), .int (nW x)]) := (ow_65 _ (by omega)).trans h0
          have tQ : tx w_65 (a + 3) 16 (nQ x) := tQ.off ow_65 (by omega)
          have q0 : w_65 (a + 3) = some (eO 7 [.ref (a + 3 + 1), .int (iI ((((nQ x).length : Nat) : Int)))]) := (ow_65 _ (by omega)).trans q0
          have hD : tx w_65 u 120 D := hD.off ow_65 (by omega)
          have d0 : w_65 u = some (eO 7 [.ref (u + 1), .int (iI (((D.length : Nat) : Int)))]) := (ow_65 _ (by omega)).trans d0
          refine r_iinc [(3, .int (iI (((s : Nat) : Int) + 1))), (4, .int (iI ((gI (bA x D s))))), (0, .ref f), (1, .ref a), (2, .ref u)] hb 71 5 1 dX1_search_68 rfl rfl hnL (by decide) (((s : Nat) : Int) + 1) (by omega) rfl ?_
          refine r_goto hb 23 dX1_search_71 (by decide) ?_
          obtain ⟨p, e1, e⟩ := fBt_up hx (by omega) (by omega : gB0 (fBt x D s) < gI (bA x D s))
          rw [e1] at xw_65
          refine r_lv [(3, .int (iI (((s + 1 : Nat)) : Int))), (0, .ref f), (1, .ref a), (2, .ref u)] [0, 2, 3, 4] rfl ?_
          exact ih_lp (D.length - (s + 1)) (by omega) (s + 1) _ _ _ rfl (by omega) (by rw [e]; exact xw_65) hR hN hD ((((hO.trans (ow_35.mono (by omega) (by omega))).trans (ow_52.mono (by omega) (by omega))).trans (ow_57.mono (by omega) (by omega))).trans (ow_65.mono (by omega) (by omega)))
  refine r_lv [(3, .int (iI (((0 : Nat)) : Int))), (0, .ref f), (1, .ref a), (2, .ref u)] [0, 1, 2, 3] rfl ?_
  exact lp _ 0 _ _ _ rfl (Nat.zero_le _) xw_18 (let ⟨g, k1, k2⟩ := hR; ⟨g, k1, fun j hj => k2 j (by omega)⟩) hN hD (((ow_4.mono (by omega) (by omega)).trans (ow_11.mono (by omega) (by omega))).trans (ow_18.mono (by omega) (by omega)))

abbrev rm_X1_init : Room := { frames := 1, cells := 1, slots := 17, locals := 12 }
set_option maxHeartbeats 4000000 in
set_option maxRecDepth 100000 in
theorem c_X1_init (f : Nat) {w : PW}  (h0 : w f = some (eO 1 [.null, .int (iI 0), .int (iI 0), .int (iI 0), .int (iI 0)])) : Ct0 yX1_init cX1_init 1 none rm_X1_init [.ref f] w (f + 1) (fun w1 n1 => n1 = f + 2 ∧ fd w1 f 0 0 0 0 ∧ fr w1 f 0 (fun _ => 0) ∧ off w w1 f (f + 2)) := by
  refine Ctr.of rfl (Nat.le_of_ble_eq_true rfl) fun S hS => ?_
  have hb : S.1.1 = cX1_init := by rw [hS]; rfl
  have ho : S.1.2.1 = RX1 := by rw [hS]; rfl
  have hnL : S.1.2.2.1 = 1 := by rw [hS]; rfl
  have hR0 : S.2.1 = rm_X1_init := by rw [hS]; rfl
  have hnm : S.1.2.2.2.2 = "<init>" := by rw [hS]; rfl
  show Wp S 0 [(0, .ref f)] [] w (f + 1) 0 0
  refine r_aload_n hb 1 dX1_init_0 rfl 0 rfl ?_
  refine r_objInit hb ho 4 dX1_init_1 rfl ck_X1_3 ob_i ob_c (by rw [hR0]; exact Nat.le_of_ble_eq_true rfl) (by rw [hR0]; exact Nat.le_of_ble_eq_true rfl) ?_
  refine r_aload_n hb 5 dX1_init_4 rfl 0 rfl ?_
  refine r_bipush 17 hb 7 dX1_init_5 rfl rfl ?_
  refine r_newI (N := 17) hb 9 dX1_init_7 rfl ka_int (rfl) (by omega) (by rw [hR0]; exact Nat.le_of_ble_eq_true rfl) (by rw [hR0]; exact Nat.le_of_ble_eq_true rfl) (fun w_7 hw_7 => ?_)
  have ow_7 := pset_off hw_7
  have fw_7 : w_7 (f + 1) = some (eI 17 (fun _ => 0)) := by rw [hw_7]; exact pset_eq _ _ _
  have h0 : w_7 f = some (eO 1 [.null, .int (iI 0), .int (iI 0), .int (iI 0), .int (iI 0)]) := (ow_7 _ (by omega)).trans h0
  refine r_putF hb ho hnm rfl 12 dX1_init_9 rfl lkw_X1_9 pf_X1_0 h0 (Nat.le_of_ble_eq_true rfl) ⟨rfl, rfl⟩ (fun w_9 hw_9 => ?_)
  have ow_9 := pset_off hw_9
  have xw_9 : w_9 f = some (eO 1 [.ref ((f + 1)), .int (iI 0), .int (iI 0), .int (iI 0), .int (iI 0)]) := by rw [hw_9]; exact pset_eq _ _ _
  have fw_7 : w_9 (f + 1) = some (eI 17 (fun _ => 0)) := (ow_9 _ (by omega)).trans fw_7
  refine r_vret hS dX1_init_12 rfl (Nat.le_of_ble_eq_true rfl) (Nat.le_of_ble_eq_true rfl) ?_
  exact ⟨rfl, rfl, xw_9, ⟨fun _ => 0, fw_7, fun _ _ => rfl⟩, (ow_7.mono (by omega) (by omega)).trans (ow_9.mono (by omega) (by omega))⟩
