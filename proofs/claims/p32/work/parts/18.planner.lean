abbrev rm_X5_takeIn : Room := { frames := 0, cells := 0, slots := 0, locals := 0 }
set_option maxHeartbeats 4000000 in
set_option maxRecDepth 100000 in
theorem c_X5_takeIn (pl c k : Nat) (oh ch : Nat → Option Nat) (o : Nat → Nat) (g nx : Nat) (D : List Int32) (h : Nat → Option Nat) (pa : Nat → Nat) (xs : Nat → Nt) (l : List Nt) {w : PW} {n : Nat} (hL : plo w pl c oh ch) (hG : pgo w g D h pa xs l.length nx) (hx : ∀ j, j < l.length → xs j = lg l j) (hc : c < 10) (hk : k < l.length) (hor : ∀ j, j < c → oh j = some (pa (o j)) ∧ o j < l.length) (hd : pl + 54 ≤ g ∨ g + 74 ≤ pl) : Ct0 yX5_takeIn cX5_takeIn 3 none rm_X5_takeIn [.ref pl, .ref (pa k)] w n (fun w1 n1 => n = n1 ∧ (∃ oh1, plo w1 pl (c + 1) oh1 ch ∧ ∀ j, j < c + 1 → oh1 j = some (pa (insF l o c k j))) ∧ off w w1 pl (pl + 2)) := by
  obtain ⟨lc, lo, lh, hch⟩ := id hL
  obtain ⟨gc, gT, gcl, gnx, ⟨ga, gh⟩, ⟨gs1, gs2⟩, gN⟩ := id hG
  have gd := gT.1
  have gdl := gT.2.1
  refine Ctr.of rfl (Nat.le_of_ble_eq_true rfl) fun S hS => ?_
  have hb : S.1.1 = cX5_takeIn := by rw [hS]; rfl
  have ho : S.1.2.1 = RX5 := by rw [hS]; rfl
  have hnL : S.1.2.2.1 = 3 := by rw [hS]; rfl
  have hR0 : S.2.1 = rm_X5_takeIn := by rw [hS]; rfl
  show Wp S 0 [(0, .ref pl), (1, .ref (pa k))] [] w n 0 0
  refine r_aload_n hb 1 dX5_takeIn_0 rfl 0 rfl ?_
  refine r_get hb ho 4 dX5_takeIn_1 rfl lk_X5_25 pf_X5_2 lc rfl ?_
  refine r_if_lt hb 7 19 dX5_takeIn_4 rfl (by decide) (by omega) (fun c4 => ?_) (fun c4 => ?_)
  · exfalso; omega
  · refine r_aload_n hb 8 dX5_takeIn_7 rfl 0 rfl ?_
    refine r_get hb ho 11 dX5_takeIn_8 rfl lk_X5_25 pf_X5_2 lc rfl ?_
    refine r_aload_n hb 12 dX5_takeIn_11 rfl 0 rfl ?_
    refine r_get hb ho 15 dX5_takeIn_12 rfl lk_X5_11 pf_X5_0 lc rfl ?_
    refine r_alen hb 16 dX5_takeIn_15 rfl lo (by decide) 10 rfl ?_
    refine r_icmp_lt hb 19 20 dX5_takeIn_16 rfl (by decide) (by omega) (by omega) (fun c16 => ?_) (fun c16 => ?_)
    · refine r_aload_n hb 21 dX5_takeIn_20 rfl 0 rfl ?_
      refine r_get hb ho 24 dX5_takeIn_21 rfl lk_X5_25 pf_X5_2 lc rfl ?_
      refine r_istore_n [(2, .int (iI (((c : Nat) : Int)))), (0, .ref pl), (1, .ref (pa k))] hb 25 3 dX5_takeIn_24 rfl rfl hnL (by decide) rfl ?_
      have lp : ∀ (d : Nat) (p : Nat) (wi : PW) (hi : Nat → Option Nat), p = d → (p ≤ c) → (plo wi pl c hi ch) → (pgo wi g D h pa xs l.length nx) → (∀ j, j < p → hi j = some (pa (o j))) → (∀ j, p < j → j ≤ c → hi j = some (pa (o (j - 1)))) → (dnL (fun p => decide (nB (lg l k) < nB (lg l (o p)))) p = dnL (fun p => decide (nB (lg l k) < nB (lg l (o p)))) c) → (off w wi (pl + 1) (pl + 2)) → Wp S 25 [(2, .int (iI (((p : Nat) : Int)))), (0, .ref pl), (1, .ref (pa k))] [] wi n 0 0 := by
        intro d
        induction d using Nat.strongRecOn with
        | _ d ih_lp =>
          intro p wi hi hd_lp hp hL hG h1 h2 hP hO
          obtain ⟨lc, lo, lh, hch⟩ := id hL
          obtain ⟨gc, gT, gcl, gnx, ⟨ga, gh⟩, ⟨gs1, gs2⟩, gN⟩ := id hG
          have gd := gT.1
          have gdl := gT.2.1
          have nk := (gN k (by omega)).1
          have hnk := (gN k (by omega)).2.2.2.2
          refine r_iload_n hb 26 dX5_takeIn_25 rfl 0 rfl ?_
          refine r_if_le hb 29 67 dX5_takeIn_26 rfl (by decide) (by omega) (fun c26 => ?_) (fun c26 => ?_)
          · refine r_aload_n hb 68 dX5_takeIn_67 rfl 1 rfl ?_
            refine r_get hb ho 71 dX5_takeIn_68 rfl lk_X5_11 pf_X5_0 lc rfl ?_
            refine r_iload_n hb 72 dX5_takeIn_71 rfl 0 rfl ?_
            refine r_aload_n hb 73 dX5_takeIn_72 rfl 2 rfl ?_
            have hsk := gs1 k (by omega)
            refine r_aast hb 74 dX5_takeIn_73 rfl lo nk rfl (Or.inr (Or.inl ⟨rfl, rfl⟩)) p (by omega) (⟨by omega, by omega⟩) (fun w_73 hw_73 => ?_)
            have ow_73 := pset_off hw_73
            have xw_73 : w_73 (pl + 1) = some (eQ 3 10 (va_up hi p (some (pa k)))) := by rw [hw_73]; exact pset_eq _ _ _
            have lc : w_73 pl = some (eO 5 [.ref (pl + 1), .ref (pl + 2), .int (iI (((c : Nat) : Int)))]) := (ow_73 _ (by omega)).trans lc
            have lh : w_73 (pl + 2) = some (eQ 2 11 ch) := (ow_73 _ (by omega)).trans lh
            have hG : pgo w_73 g D h pa xs l.length nx := hG.off ow_73 (by omega)
            have nk : w_73 (pa k) = some (eO 3 [.ref (pa k + 1), .ref (pa k + 3), .ref (pa k + 5), .int (iI (((nNum (xs k) : Nat) : Int))), .int (bI (nK (xs k))), .int (iI (((nB (xs k) : Nat) : Int))), .int (iI (((nE (xs k) : Nat) : Int))), .int (nW (xs k))]) := (ow_73 _ (by omega)).trans nk
            refine r_aload_n hb 75 dX5_takeIn_74 rfl 1 rfl ?_
            refine r_dup hb 76 dX5_takeIn_75 rfl rfl ?_
            refine r_get hb ho 79 dX5_takeIn_76 rfl lk_X5_25 pf_X5_2 lc rfl ?_
            refine r_iconst hb 80 dX5_takeIn_79 rfl ?_
            refine r_iaddZ hb 81 (((c : Nat) : Int) + 1) dX5_takeIn_80 rfl (by omega) ?_
            refine r_put hb ho 84 dX5_takeIn_81 rfl lk_X5_25 pf_X5_2 lc (Nat.le_of_ble_eq_true rfl) ⟨rfl, rfl⟩ (fun w_81 hw_81 => ?_)
            have ow_81 := pset_off hw_81
            have xw_81 : w_81 pl = some (eO 5 [.ref (pl + 1), .ref (pl + 2), .int (iI (((c : Nat) : Int) + 1))]) := by rw [hw_81]; exact pset_eq _ _ _
            have xw_73 : w_81 (pl + 1) = some (eQ 3 10 (va_up hi p (some (pa k)))) := (ow_81 _ (by omega)).trans xw_73
            have lh : w_81 (pl + 2) = some (eQ 2 11 ch) := (ow_81 _ (by omega)).trans lh
            have hG : pgo w_81 g D h pa xs l.length nx := hG.off ow_81 (by omega)
            have nk : w_81 (pa k) = some (eO 3 [.ref (pa k + 1), .ref (pa k + 3), .ref (pa k + 5), .int (iI (((nNum (xs k) : Nat) : Int))), .int (bI (nK (xs k))), .int (iI (((nB (xs k) : Nat) : Int))), .int (iI (((nE (xs k) : Nat) : Int))), .int (nW (xs k))]) := (ow_81 _ (by omega)).trans nk
            refine r_vret hS dX5_takeIn_84 rfl (Nat.zero_le _) (Nat.zero_le _) ?_
            have hp0 : dnL (fun p => decide (nB (lg l k) < nB (lg l (o p)))) p = p := by rw [show p = 0 by omega]; rfl
            rw [hp0] at hP
            refine ⟨rfl, rfl, ⟨_, ⟨xw_81, xw_73, lh, hch⟩, fun j hj => ?_⟩, ((hO.mono (by omega) (by omega)).trans (ow_73.mono (by omega) (by omega))).trans (ow_81.mono (by omega) (by omega))⟩
            simp only [insF, va_up]
            rw [← hP]
            by_cases e : j = p
            · rw [if_pos e, if_neg (by omega), if_pos e]
            · rw [if_neg e]
              by_cases e1 : j < p
              · rw [if_pos e1]; exact h1 j e1
              · rw [if_neg e1, if_neg e]; exact h2 j (by omega) (by omega)
          · have hoj := (hor (p - 1) (by omega)).2
            refine r_aload_n hb 30 dX5_takeIn_29 rfl 1 rfl ?_
            refine r_get hb ho 33 dX5_takeIn_30 rfl lk_X5_11 pf_X5_0 lc rfl ?_
            refine r_iload_n hb 34 dX5_takeIn_33 rfl 0 rfl ?_
            refine r_iconst hb 35 dX5_takeIn_34 rfl ?_
            refine r_isubZ hb 36 (((p : Nat) : Int) - 1) dX5_takeIn_35 rfl (by omega) ?_
            refine r_aald hb 37 dX5_takeIn_36 rfl lo (by decide) (p - 1) (by omega) (⟨by omega, by omega⟩) (pa (o (p - 1))) (h1 (p - 1) (by omega)) ?_
            have n0 := (gN (o (p - 1)) (by omega)).1
            have hn0 := (gN (o (p - 1)) (by omega)).2.2.2.2
            have hs0 := gs1 (o (p - 1)) (by omega)
            have hsk := gs1 k (by omega)
            refine r_get hb ho 40 dX5_takeIn_37 rfl lk_X5_42 pf_X3_5 n0 rfl ?_
            refine r_aload_n hb 41 dX5_takeIn_40 rfl 2 rfl ?_
            refine r_get hb ho 44 dX5_takeIn_41 rfl lk_X5_42 pf_X3_5 nk rfl ?_
            refine r_icmp_le hb 47 67 dX5_takeIn_44 rfl (by decide) (by omega) (by omega) (fun c44 => ?_) (fun c44 => ?_)
            · refine r_aload_n hb 68 dX5_takeIn_67 rfl 1 rfl ?_
              refine r_get hb ho 71 dX5_takeIn_68 rfl lk_X5_11 pf_X5_0 lc rfl ?_
              refine r_iload_n hb 72 dX5_takeIn_71 rfl 0 rfl ?_
              refine r_aload_n hb 73 dX5_takeIn_72 rfl 2 rfl ?_
              have hsk := gs1 k (by omega)
              refine r_aast hb 74 dX5_takeIn_73 rfl lo nk rfl (Or.inr (Or.inl ⟨rfl, rfl⟩)) p (by omega) (⟨by omega, by omega⟩) (fun w_73 hw_73 => ?_)
              have ow_73 := pset_off hw_73
              have xw_73 : w_73 (pl + 1) = some (eQ 3 10 (va_up hi p (some (pa k)))) := by rw [hw_73]; exact pset_eq _ _ _
              have n0 : w_73 (pa (o (p - 1))) = some (eO 3 [.ref (pa (o (p - 1)) + 1), .ref (pa (o (p - 1)) + 3), .ref (pa (o (p - 1)) + 5), .int (iI (((nNum (xs (o (p - 1))) : Nat) : Int))), .int (bI (nK (xs (o (p - 1))))), .int (iI (((nB (xs (o (p - 1))) : Nat) : Int))), .int (iI (((nE (xs (o (p - 1))) : Nat) : Int))), .int (nW (xs (o (p - 1))))]) := (ow_73 _ (by omega)).trans n0
              have lc : w_73 pl = some (eO 5 [.ref (pl + 1), .ref (pl + 2), .int (iI (((c : Nat) : Int)))]) := (ow_73 _ (by omega)).trans lc
              have lh : w_73 (pl + 2) = some (eQ 2 11 ch) := (ow_73 _ (by omega)).trans lh
              have hG : pgo w_73 g D h pa xs l.length nx := hG.off ow_73 (by omega)
              have nk : w_73 (pa k) = some (eO 3 [.ref (pa k + 1), .ref (pa k + 3), .ref (pa k + 5), .int (iI (((nNum (xs k) : Nat) : Int))), .int (bI (nK (xs k))), .int (iI (((nB (xs k) : Nat) : Int))), .int (iI (((nE (xs k) : Nat) : Int))), .int (nW (xs k))]) := (ow_73 _ (by omega)).trans nk
              refine r_aload_n hb 75 dX5_takeIn_74 rfl 1 rfl ?_
              refine r_dup hb 76 dX5_takeIn_75 rfl rfl ?_
              refine r_get hb ho 79 dX5_takeIn_76 rfl lk_X5_25 pf_X5_2 lc rfl ?_
              refine r_iconst hb 80 dX5_takeIn_79 rfl ?_
              refine r_iaddZ hb 81 (((c : Nat) : Int) + 1) dX5_takeIn_80 rfl (by omega) ?_
              refine r_put hb ho 84 dX5_takeIn_81 rfl lk_X5_25 pf_X5_2 lc (Nat.le_of_ble_eq_true rfl) ⟨rfl, rfl⟩ (fun w_81 hw_81 => ?_)
              have ow_81 := pset_off hw_81
              have xw_81 : w_81 pl = some (eO 5 [.ref (pl + 1), .ref (pl + 2), .int (iI (((c : Nat) : Int) + 1))]) := by rw [hw_81]; exact pset_eq _ _ _
              have xw_73 : w_81 (pl + 1) = some (eQ 3 10 (va_up hi p (some (pa k)))) := (ow_81 _ (by omega)).trans xw_73
              have n0 : w_81 (pa (o (p - 1))) = some (eO 3 [.ref (pa (o (p - 1)) + 1), .ref (pa (o (p - 1)) + 3), .ref (pa (o (p - 1)) + 5), .int (iI (((nNum (xs (o (p - 1))) : Nat) : Int))), .int (bI (nK (xs (o (p - 1))))), .int (iI (((nB (xs (o (p - 1))) : Nat) : Int))), .int (iI (((nE (xs (o (p - 1))) : Nat) : Int))), .int (nW (xs (o (p - 1))))]) := (ow_81 _ (by omega)).trans n0
              have lh : w_81 (pl + 2) = some (eQ 2 11 ch) := (ow_81 _ (by omega)).trans lh
              have hG : pgo w_81 g D h pa xs l.length nx := hG.off ow_81 (by omega)
              have nk : w_81 (pa k) = some (eO 3 [.ref (pa k + 1), .ref (pa k + 3), .ref (pa k + 5), .int (iI (((nNum (xs k) : Nat) : Int))), .int (bI (nK (xs k))), .int (iI (((nB (xs k) : Nat) : Int))), .int (iI (((nE (xs k) : Nat) : Int))), .int (nW (xs k))]) := (ow_81 _ (by omega)).trans nk
              refine r_vret hS dX5_takeIn_84 rfl (Nat.zero_le _) (Nat.zero_le _) ?_
              have hp0 : dnL (fun p => decide (nB (lg l k) < nB (lg l (o p)))) p = p := by
                rw [show p = (p - 1) + 1 by omega]; simp only [dnL]; rw [if_neg]
                rw [decide_eq_true_eq]; rw [hx k hk, hx _ (hor (p - 1) (by omega)).2] at c44; omega
              rw [hp0] at hP
              refine ⟨rfl, rfl, ⟨_, ⟨xw_81, xw_73, lh, hch⟩, fun j hj => ?_⟩, ((hO.mono (by omega) (by omega)).trans (ow_73.mono (by omega) (by omega))).trans (ow_81.mono (by omega) (by omega))⟩
              simp only [insF, va_up]
              rw [← hP]
              by_cases e : j = p
              · rw [if_pos e, if_neg (by omega), if_pos e]
              · rw [if_neg e]
                by_cases e1 : j < p
                · rw [if_pos e1]; exact h1 j e1
                · rw [if_neg e1, if_neg e]; exact h2 j (by omega) (by omega)
            · refine r_aload_n hb 48 dX5_takeIn_47 rfl 1 rfl ?_
              refine r_get hb ho 51 dX5_takeIn_48 rfl lk_X5_11 pf_X5_0 lc rfl ?_
              refine r_iload_n hb 52 dX5_takeIn_51 rfl 0 rfl ?_
              refine r_aload_n hb 53 dX5_takeIn_52 rfl 1 rfl ?_
              refine r_get hb ho 56 dX5_takeIn_53 rfl lk_X5_11 pf_X5_0 lc rfl ?_
              refine r_iload_n hb 57 dX5_takeIn_56 rfl 0 rfl ?_
              refine r_iconst hb 58 dX5_takeIn_57 rfl ?_
              refine r_isubZ hb 59 (((p : Nat) : Int) - 1) dX5_takeIn_58 rfl (by omega) ?_
              refine r_aald hb 60 dX5_takeIn_59 rfl lo (by decide) (p - 1) (by omega) (⟨by omega, by omega⟩) (pa (o (p - 1))) (h1 (p - 1) (by omega)) ?_
              refine r_aast hb 61 dX5_takeIn_60 rfl lo n0 rfl (Or.inr (Or.inl ⟨rfl, rfl⟩)) p (by omega) (⟨by omega, by omega⟩) (fun w_60 hw_60 => ?_)
              have ow_60 := pset_off hw_60
              have xw_60 : w_60 (pl + 1) = some (eQ 3 10 (va_up hi p (some (pa (o (p - 1)))))) := by rw [hw_60]; exact pset_eq _ _ _
              have n0 : w_60 (pa (o (p - 1))) = some (eO 3 [.ref (pa (o (p - 1)) + 1), .ref (pa (o (p - 1)) + 3), .ref (pa (o (p - 1)) + 5), .int (iI (((nNum (xs (o (p - 1))) : Nat) : Int))), .int (bI (nK (xs (o (p - 1))))), .int (iI (((nB (xs (o (p - 1))) : Nat) : Int))), .int (iI (((nE (xs (o (p - 1))) : Nat) : Int))), .int (nW (xs (o (p - 1))))]) := (ow_60 _ (by omega)).trans n0
              have lc : w_60 pl = some (eO 5 [.ref (pl + 1), .ref (pl + 2), .int (iI (((c : Nat) : Int)))]) := (ow_60 _ (by omega)).trans lc
              have lh : w_60 (pl + 2) = some (eQ 2 11 ch) := (ow_60 _ (by omega)).trans lh
              have hG : pgo w_60 g D h pa xs l.length nx := hG.off ow_60 (by omega)
              have nk : w_60 (pa k) = some (eO 3 [.ref (pa k + 1), .ref (pa k + 3), .ref (pa k + 5), .int (iI (((nNum (xs k) : Nat) : Int))), .int (bI (nK (xs k))), .int (iI (((nB (xs k) : Nat) : Int))), .int (iI (((nE (xs k) : Nat) : Int))), .int (nW (xs k))]) := (ow_60 _ (by omega)).trans nk
              refine r_iinc [(2, .int (iI (((p : Nat) : Int) - 1))), (0, .ref pl), (1, .ref (pa k))] hb 64 3 0 dX5_takeIn_61 rfl rfl hnL (by decide) (((p : Nat) : Int) - 1) (by omega) rfl ?_
              refine r_goto hb 25 dX5_takeIn_64 (by decide) ?_
              have hC : (fun p => decide (nB (lg l k) < nB (lg l (o p)))) (p - 1) = true := by
                rw [decide_eq_true_eq]; rw [hx k hk, hx _ (hor (p - 1) (by omega)).2] at c44; omega
              refine r_lv [(2, .int (iI (((p - 1 : Nat)) : Int))), (0, .ref pl), (1, .ref (pa k))] [0, 1, 2] (by rw [show (((p - 1 : Nat)) : Int) = (p : Int) - 1 by omega]; rfl) ?_
              refine ih_lp (p - 1) (by omega) (p - 1) _ _ rfl (by omega) ⟨lc, xw_60, lh, hch⟩ hG ?_ ?_ ?_ (hO.trans (ow_60.mono (by omega) (by omega)))
              · intro j hj
                simp only [va_up]; rw [if_neg (by omega)]; exact h1 j (by omega)
              · intro j hj hj2
                simp only [va_up]
                by_cases e : j = p
                · rw [if_pos e, e]
                · rw [if_neg e]; exact h2 j (by omega) hj2
              · rw [← hP]
                rw [show dnL (fun p => decide (nB (lg l k) < nB (lg l (o p)))) p = dnL (fun p => decide (nB (lg l k) < nB (lg l (o p)))) (p - 1) by rw [show p = (p - 1) + 1 by omega]; simp only [dnL, Nat.add_sub_cancel]; rw [if_pos hC]]
      refine r_lv [(2, .int (iI (((c : Nat)) : Int))), (0, .ref pl), (1, .ref (pa k))] [0, 1, 2] rfl ?_
      exact lp _ c _ oh rfl (Nat.le_refl _) hL hG (fun j hj => (hor j hj).1) (fun j h1 h2 => absurd h2 (by omega)) rfl (off.rfl' _ _ _)
    · exfalso; omega

abbrev rm_X5_gather : Room := { frames := 1, cells := 0, slots := 0, locals := 22 }
set_option maxHeartbeats 4000000 in
set_option maxRecDepth 100000 in
theorem c_X5_gather (pl c : Nat) (oh ch : Nat → Option Nat) (g nx : Nat) (D : List Int32) (h : Nat → Option Nat) (pa : Nat → Nat) (xs : Nat → Nt) (l : List Nt) {w : PW} {n : Nat} (hL : plo w pl c oh ch) (hG : pgo w g D h pa xs l.length nx) (hx : ∀ j, j < l.length → xs j = lg l j) (hd : pl + 54 ≤ g ∨ g + 74 ≤ pl) : Ct1 yX5_gather cX5_gather 3 (some .int) rm_X5_gather [.ref pl, .ref g] w n (fun v w1 n1 => v = .int (iI (((gaN l l.length).2 : Nat) : Int)) ∧ n = n1 ∧ (∃ oh1, plo w1 pl (gaN l l.length).2 oh1 ch ∧ ∀ j, j < (gaN l l.length).2 → oh1 j = some (pa ((gaN l l.length).1 j))) ∧ off w w1 pl (pl + 2)) := by
  obtain ⟨lc, lo, lh, hch⟩ := id hL
  obtain ⟨gc, gT, gcl, gnx, ⟨ga, gh⟩, ⟨gs1, gs2⟩, gN⟩ := id hG
  have gd := gT.1
  have gdl := gT.2.1
  refine Ctr.of rfl (Nat.le_of_ble_eq_true rfl) fun S hS => ?_
  have hb : S.1.1 = cX5_gather := by rw [hS]; rfl
  have ho : S.1.2.1 = RX5 := by rw [hS]; rfl
  have hnL : S.1.2.2.1 = 3 := by rw [hS]; rfl
  have hR0 : S.2.1 = rm_X5_gather := by rw [hS]; rfl
  show Wp S 0 [(0, .ref pl), (1, .ref g)] [] w n 0 0
  refine r_aload_n hb 1 dX5_gather_0 rfl 0 rfl ?_
  refine r_iconst hb 2 dX5_gather_1 rfl ?_
  refine r_topz ((0 : Nat) : Int) rfl ?_
  refine r_put hb ho 5 dX5_gather_2 rfl lk_X5_25 pf_X5_2 lc (Nat.le_of_ble_eq_true rfl) ⟨rfl, rfl⟩ (fun w_2 hw_2 => ?_)
  have ow_2 := pset_off hw_2
  have xw_2 : w_2 pl = some (eO 5 [.ref (pl + 1), .ref (pl + 2), .int (iI (((0 : Nat) : Int)))]) := by rw [hw_2]; exact pset_eq _ _ _
  have lo : w_2 (pl + 1) = some (eQ 3 10 oh) := (ow_2 _ (by omega)).trans lo
  have lh : w_2 (pl + 2) = some (eQ 2 11 ch) := (ow_2 _ (by omega)).trans lh
  have hG : pgo w_2 g D h pa xs l.length nx := hG.off ow_2 (by omega)
  have gc : w_2 g = some (eO 4 [.ref (g + 1), .ref (g + 3), .int (iI (((l.length : Nat) : Int))), .int (iI (((nx : Nat) : Int)))]) := (ow_2 _ (by omega)).trans gc
  have ga : w_2 (g + 3) = some (eQ 3 10 h) := (ow_2 _ (by omega)).trans ga
  have gT : tx w_2 (g + 1) 120 D := gT.off ow_2 (by omega)
  have gd : w_2 (g + 1) = some (eO 7 [.ref (g + 1 + 1), .int (iI (((D.length : Nat) : Int)))]) := (ow_2 _ (by omega)).trans gd
  refine r_iconst hb 6 dX5_gather_5 rfl ?_
  refine r_istore_n [(2, .int (iI 0)), (0, .ref pl), (1, .ref g)] hb 7 3 dX5_gather_6 rfl rfl hnL (by decide) rfl ?_
  have lp : ∀ (d : Nat) (i : Nat) (wi : PW) (hi : Nat → Option Nat), l.length - i = d → (i ≤ l.length) → (plo wi pl (gaN l i).2 hi ch) → (pgo wi g D h pa xs l.length nx) → (∀ j, j < (gaN l i).2 → hi j = some (pa ((gaN l i).1 j))) → (off w wi pl (pl + 2)) → Wp S 7 [(2, .int (iI (((i : Nat) : Int)))), (0, .ref pl), (1, .ref g)] [] wi n 0 0 := by
    intro d
    induction d using Nat.strongRecOn with
    | _ d ih_lp =>
      intro i wi hi hd_lp hi2 hL hG hoh hO
      obtain ⟨lc, lo, lh, hch⟩ := id hL
      obtain ⟨gc, gT, gcl, gnx, ⟨ga, gh⟩, ⟨gs1, gs2⟩, gN⟩ := id hG
      have gd := gT.1
      have gdl := gT.2.1
      have hga := gaN_le l i
      refine r_iload_n hb 8 dX5_gather_7 rfl 0 rfl ?_
      refine r_aload_n hb 9 dX5_gather_8 rfl 2 rfl ?_
      refine r_get hb ho 12 dX5_gather_9 rfl lk_X5_29 pf_X4_2 gc rfl ?_
      refine r_icmp_ge hb 15 52 dX5_gather_12 rfl (by decide) (by omega) (by omega) (fun c12 => ?_) (fun c12 => ?_)
      · refine r_aload_n hb 53 dX5_gather_52 rfl 1 rfl ?_
        refine r_get hb ho 56 dX5_gather_53 rfl lk_X5_25 pf_X5_2 lc rfl ?_
        refine r_iret hS dX5_gather_56 rfl rfl (Nat.zero_le _) (Nat.zero_le _) ?_
        have ei : i = l.length := by omega
        subst ei
        exact ⟨_, rfl, rfl, rfl, ⟨hi, hL, hoh⟩, hO⟩
      · refine r_iload_n hb 16 dX5_gather_15 rfl 0 rfl ?_
        refine r_aload_n hb 17 dX5_gather_16 rfl 2 rfl ?_
        refine r_get hb ho 20 dX5_gather_17 rfl lk_X5_32 pf_X4_1 gc rfl ?_
        refine r_alen hb 21 dX5_gather_20 rfl ga (by decide) 10 rfl ?_
        refine r_icmp_ge hb 24 52 dX5_gather_21 rfl (by decide) (by omega) (by omega) (fun c21 => ?_) (fun c21 => ?_)
        · exfalso; omega
        · refine r_aload_n hb 25 dX5_gather_24 rfl 2 rfl ?_
          refine r_get hb ho 28 dX5_gather_25 rfl lk_X5_32 pf_X4_1 gc rfl ?_
          refine r_iload_n hb 29 dX5_gather_28 rfl 0 rfl ?_
          refine r_aald hb 30 dX5_gather_29 rfl ga (by decide) i (by omega) (⟨by omega, by omega⟩) (pa i) (gh i (by omega)) ?_
          have n0 := (gN i (by omega)).1
          have hsn0 := gs1 i (by omega)
          have hqn0 := (gN i (by omega)).2.2.2.2
          refine r_get hb ho 33 dX5_gather_30 rfl lk_X5_35 pf_X3_4 n0 rfl ?_
          refine r_ifb_ne hb 36 46 dX5_gather_33 rfl (by decide) (fun c33 => ?_) (fun c33 => ?_)
          · refine r_iinc [(2, .int (iI (((i : Nat) : Int) + 1))), (0, .ref pl), (1, .ref g)] hb 49 3 0 dX5_gather_46 rfl rfl hnL (by decide) (((i : Nat) : Int) + 1) (by omega) rfl ?_
            refine r_goto hb 7 dX5_gather_49 (by decide) ?_
            rw [hx i (by omega)] at c33
            have e : gaN l (i + 1) = gaN l i := by simp only [gaN]; rw [if_pos c33]
            refine r_lv [(2, .int (iI (((i + 1 : Nat)) : Int))), (0, .ref pl), (1, .ref g)] [0, 1, 2] rfl ?_
            exact ih_lp (l.length - (i + 1)) (by omega) (i + 1) _ _ rfl (by omega) (by rw [e]; exact hL) hG (by rw [e]; exact hoh) hO
          · refine r_aload_n hb 37 dX5_gather_36 rfl 1 rfl ?_
            refine r_aload_n hb 38 dX5_gather_37 rfl 2 rfl ?_
            refine r_get hb ho 41 dX5_gather_38 rfl lk_X5_32 pf_X4_1 gc rfl ?_
            refine r_iload_n hb 42 dX5_gather_41 rfl 0 rfl ?_
            refine r_aald hb 43 dX5_gather_42 rfl ga (by decide) i (by omega) (⟨by omega, by omega⟩) (pa i) (gh i (by omega)) ?_
            have n0 := (gN i (by omega)).1
            have hsn0 := gs1 i (by omega)
            have hqn0 := (gN i (by omega)).2.2.2.2
            refine r_callV0 (st := []) hb ho 46 dX5_gather_43 rfl ck_X5_38 (c_X5_takeIn pl (gaN l i).2 i hi ch (gaN l i).1 g nx D h pa xs l hL hG hx (by omega) (by omega) (fun j hj => ⟨hoh j hj, by have := gaN_lt l i j hj; omega⟩) hd) rfl rfl (lc) rfl rfl (by rw [hR0]; exact ⟨Nat.le_of_ble_eq_true rfl, Nat.le_of_ble_eq_true rfl⟩) (Nat.le_of_ble_eq_true rfl) ⟨rfl, rfl⟩ (by rw [hR0]; exact Nat.zero_le _) (by rw [hR0]; exact Nat.zero_le _) (fun w_43 nw_43 qw_43 => ?_)
            obtain ⟨rfl, ⟨oh1, hL, hoh⟩, ow_43⟩ := qw_43
            have hG := hG.off ow_43 (by omega)
            refine r_iinc [(2, .int (iI (((i : Nat) : Int) + 1))), (0, .ref pl), (1, .ref g)] hb 49 3 0 dX5_gather_46 rfl rfl hnL (by decide) (((i : Nat) : Int) + 1) (by omega) rfl ?_
            refine r_goto hb 7 dX5_gather_49 (by decide) ?_
            rw [hx i (by omega)] at c33
            have e : gaN l (i + 1) = (insF l (gaN l i).1 (gaN l i).2 i, (gaN l i).2 + 1) := by simp only [gaN]; rw [if_neg (by rw [c33]; decide)]
            refine r_lv [(2, .int (iI (((i + 1 : Nat)) : Int))), (0, .ref pl), (1, .ref g)] [0, 1, 2] rfl ?_
            exact ih_lp (l.length - (i + 1)) (by omega) (i + 1) _ _ rfl (by omega) (by rw [e]; exact hL) hG (by rw [e]; exact hoh) (hO.trans ow_43)
  refine r_lv [(2, .int (iI (((0 : Nat)) : Int))), (0, .ref pl), (1, .ref g)] [0, 1, 2] rfl ?_
  exact lp _ 0 _ oh rfl (Nat.zero_le _) ⟨xw_2, lo, lh, hch⟩ hG (fun j hj => absurd hj (Nat.not_lt_zero _)) (ow_2.mono (by omega) (by omega))

theorem plan_step {wi w1 w2 : PW} {pl c k f : Nat} {l : List Nt} {D : List Int32} {thr : Int} {o : Nat → Nat} {sc1 en1 sm1 sm2 : Nat → Int} (hk : 0 < k) (hkc : k ≤ c) (hc : c ≤ 10) (hH : chG wi pl l D thr o c k) (ow1 : off2 wi w1 (pl + 10 + 4 * (k - 1)) (pl + 10 + 4 * (k - 1) + 4) f (f + 2)) (ow2 : off w1 w2 (pl + 10 + 4 * (k - 1)) (pl + 10 + 4 * (k - 1) + 4)) (hf : f + 2 ≤ pl)
    (hC : chp w2 (pl + 10 + 4 * (k - 1)) D.length sc1 en1 sm1) (hsc : ∀ p, p < D.length → sc1 p = elN (lg l (o (k - 1))) D thr p ∧ en1 p = gE p (bA (lg l (o (k - 1))) D p)) (hsm : ∀ p, p ≤ 120 → sm1 p = upS D.length sc1 sm2 (121 - p)) (h2 : ∀ p, p ≤ 120 → sm2 p = smN l D thr o c (c - k) p) : chG w2 pl l D thr o c (k - 1) := by
  intro j hj
  by_cases e : j = k - 1
  · subst e
    refine ⟨D.length, sc1, en1, sm1, hC, fun _ _ => ⟨fun p hp => ?_, fun _ => ⟨rfl, hsc⟩⟩⟩
    rw [hsm p hp, upS_congr (fun p hp => (hsc p hp).1) h2, show c - (k - 1) = (c - k) + 1 by omega]
    simp only [smN]
    rw [show c - (c - k + 1) = k - 1 by omega]
  · obtain ⟨sz, sc, en, sm, h3, h4⟩ := hH j hj
    exact ⟨sz, sc, en, sm, (h3.off2 ow1 (by omega) (by omega)).off ow2 (by omega), fun h5 h6 => h4 (by omega) h6⟩
abbrev rm_X5_plan : Room := { frames := 5, cells := 0, slots := 0, locals := 125 }
set_option maxHeartbeats 4000000 in
set_option maxRecDepth 100000 in
theorem c_X5_plan (pl c f : Nat) (oh ch : Nat → Option Nat) (o : Nat → Nat) (thr b0 b1 b2 eh : Int) (ri : Nat → Nat) (g nx : Nat) (D : List Int32) (h : Nat → Option Nat) (pa : Nat → Nat) (xs : Nat → Nt) (l : List Nt) {w : PW} {n : Nat} (hL : plo w pl c oh ch) (hG : pgo w g D h pa xs l.length nx) (hx : ∀ j, j < l.length → xs j = lg l j) (hc : c ≤ 10) (hor : ∀ j, j < c → oh j = some (pa (o j)) ∧ o j < l.length) (hd : pl + 54 ≤ g ∨ g + 74 ≤ pl) (hok : ∀ j, j < l.length → nOk (lg l j)) (hA : chA w pl) (hF : fd w f b0 b1 b2 eh) (hR : fr w f 0 ri) (hf : f + 2 ≤ pl) (hfg : f + 2 ≤ g ∨ g + 74 ≤ f) (ht : 0 ≤ thr ∧ thr ≤ 108) : Ct0 yX5_plan cX5_plan 5 none rm_X5_plan [.ref pl, .ref (g + 1), .int (iI (thr)), .ref f] w n (fun w1 n1 => n = n1 ∧ chG w1 pl l D thr o c 0 ∧ (∃ e1, fd w1 f b0 b1 b2 e1) ∧ (∃ r, fr w1 f 0 r) ∧ off2 w w1 (pl + 10) (pl + 54) f (f + 2)) := by
  obtain ⟨lc, lo, lh, hch⟩ := id hL
  obtain ⟨gc, gT, gcl, gnx, ⟨ga, gh⟩, ⟨gs1, gs2⟩, gN⟩ := id hG
  have gd := gT.1
  have gdl := gT.2.1
  have fc := hF
  refine Ctr.of rfl (Nat.le_of_ble_eq_true rfl) fun S hS => ?_
  have hb : S.1.1 = cX5_plan := by rw [hS]; rfl
  have ho : S.1.2.1 = RX5 := by rw [hS]; rfl
  have hnL : S.1.2.2.1 = 5 := by rw [hS]; rfl
  have hR0 : S.2.1 = rm_X5_plan := by rw [hS]; rfl
  show Wp S 0 [(0, .ref pl), (1, .ref (g + 1)), (2, .int (iI (thr))), (3, .ref f)] [] w n 0 0
  refine r_aload_n hb 1 dX5_plan_0 rfl 0 rfl ?_
  refine r_get hb ho 4 dX5_plan_1 rfl lk_X5_25 pf_X5_2 lc rfl ?_
  refine r_if_lt hb 7 19 dX5_plan_4 rfl (by decide) (by omega) (fun c4 => ?_) (fun c4 => ?_)
  · exfalso; omega
  · refine r_aload_n hb 8 dX5_plan_7 rfl 0 rfl ?_
    refine r_get hb ho 11 dX5_plan_8 rfl lk_X5_25 pf_X5_2 lc rfl ?_
    refine r_aload_n hb 12 dX5_plan_11 rfl 0 rfl ?_
    refine r_get hb ho 15 dX5_plan_12 rfl lk_X5_19 pf_X5_1 lc rfl ?_
    refine r_alen hb 16 dX5_plan_15 rfl lh (by decide) 11 rfl ?_
    refine r_icmp_lt hb 19 20 dX5_plan_16 rfl (by decide) (by omega) (by omega) (fun c16 => ?_) (fun c16 => ?_)
    · refine r_aload_n hb 21 dX5_plan_20 rfl 0 rfl ?_
      refine r_get hb ho 24 dX5_plan_21 rfl lk_X5_19 pf_X5_1 lc rfl ?_
      refine r_aload_n hb 25 dX5_plan_24 rfl 0 rfl ?_
      refine r_get hb ho 28 dX5_plan_25 rfl lk_X5_25 pf_X5_2 lc rfl ?_
      refine r_aald hb 29 dX5_plan_28 rfl lh (by decide) c (by omega) (⟨by omega, by omega⟩) (pl + 10 + 4 * c) (hch c (by omega)) ?_
      obtain ⟨szc, scc, enc, smc, hCc⟩ := hA c (by omega)
      refine r_callV0 (st := []) hb ho 32 dX5_plan_29 rfl ck_X5_45 (c_X0_beNothing (pl + 10 + 4 * c) szc scc enc smc hCc) rfl rfl (hCc.1) rfl rfl (by rw [hR0]; exact ⟨Nat.le_of_ble_eq_true rfl, Nat.le_of_ble_eq_true rfl⟩) (Nat.le_of_ble_eq_true rfl) ⟨rfl, rfl⟩ (by rw [hR0]; exact Nat.zero_le _) (by rw [hR0]; exact Nat.zero_le _) (fun w_29 nw_29 qw_29 => ?_)
      obtain ⟨rfl, ⟨sm1, hC1, hz1⟩, ow_29⟩ := qw_29
      have lc : w_29 pl = some (eO 5 [.ref (pl + 1), .ref (pl + 2), .int (iI (((c : Nat) : Int)))]) := (ow_29 _ (by omega)).trans lc
      have lo : w_29 (pl + 1) = some (eQ 3 10 oh) := (ow_29 _ (by omega)).trans lo
      have lh : w_29 (pl + 2) = some (eQ 2 11 ch) := (ow_29 _ (by omega)).trans lh
      have hG : pgo w_29 g D h pa xs l.length nx := hG.off ow_29 (by omega)
      have fc : w_29 f = some (eO 1 [.ref (f + 1), .int (iI (b0)), .int (iI (b1)), .int (iI (b2)), .int (iI (eh))]) := (ow_29 _ (by omega)).trans fc
      have hR : fr w_29 f 0 ri := hR.off ow_29 (by omega)
      refine r_aload_n hb 33 dX5_plan_32 rfl 0 rfl ?_
      refine r_get hb ho 36 dX5_plan_33 rfl lk_X5_25 pf_X5_2 lc rfl ?_
      refine r_iconst hb 37 dX5_plan_36 rfl ?_
      refine r_isubZ hb 38 (((c : Nat) : Int) - 1) dX5_plan_37 rfl (by omega) ?_
      refine r_istore [(4, .int (iI (((c : Nat) : Int) - 1))), (0, .ref pl), (1, .ref (g + 1)), (2, .int (iI (thr))), (3, .ref f)] hb 40 5 dX5_plan_38 rfl hnL (by decide) rfl ?_
      have lp : ∀ (d : Nat) (k : Nat) (wi : PW) (eh : Int) (ri : Nat → Nat), k = d → (k ≤ c) → (plo wi pl c oh ch) → (pgo wi g D h pa xs l.length nx) → (chG wi pl l D thr o c k) → (fd wi f b0 b1 b2 eh) → (fr wi f 0 ri) → (off2 w wi (pl + 10) (pl + 54) f (f + 2)) → Wp S 40 [(4, .int (iI (((k : Nat) : Int) - 1))), (0, .ref pl), (1, .ref (g + 1)), (2, .int (iI (thr))), (3, .ref f)] [] wi n 0 0 := by
        intro d
        induction d using Nat.strongRecOn with
        | _ d ih_lp =>
          intro k wi eh ri hd_lp hk hL hG hH fc hR hO
          obtain ⟨lc, lo, lh, hch⟩ := id hL
          obtain ⟨gc, gT, gcl, gnx, ⟨ga, gh⟩, ⟨gs1, gs2⟩, gN⟩ := id hG
          have gd := gT.1
          have gdl := gT.2.1
          refine r_iload hb 42 dX5_plan_40 rfl 0 rfl ?_
          refine r_if_lt hb 45 100 dX5_plan_42 rfl (by decide) (by omega) (fun c42 => ?_) (fun c42 => ?_)
          · refine r_vret hS dX5_plan_100 rfl (Nat.zero_le _) (Nat.zero_le _) ?_
            have ek : k = 0 := by omega
            subst ek
            exact ⟨rfl, rfl, hH, ⟨_, fc⟩, ⟨_, hR⟩, hO⟩
          · have hk0 : 0 < k := by omega
            obtain ⟨hok1, hok3⟩ := hor (k - 1) (by omega)
            have hso := gs1 (o (k - 1)) (by omega)
            obtain ⟨sz, sc, en, sm, hC, -⟩ := hH (k - 1) (by omega)
            obtain ⟨sz2, sc2, en2, sm2, hC2, hok2⟩ := hH k (by omega)
            have hok2 := hok2 (Nat.le_refl _) hk
            refine r_iload hb 47 dX5_plan_45 rfl 0 rfl ?_
            refine r_aload_n hb 48 dX5_plan_47 rfl 1 rfl ?_
            refine r_get hb ho 51 dX5_plan_48 rfl lk_X5_11 pf_X5_0 lc rfl ?_
            refine r_alen hb 52 dX5_plan_51 rfl lo (by decide) 10 rfl ?_
            refine r_icmp_ge hb 55 100 dX5_plan_52 rfl (by decide) (by omega) (by omega) (fun c52 => ?_) (fun c52 => ?_)
            · exfalso; omega
            · refine r_aload_n hb 56 dX5_plan_55 rfl 1 rfl ?_
              refine r_get hb ho 59 dX5_plan_56 rfl lk_X5_19 pf_X5_1 lc rfl ?_
              refine r_iload hb 61 dX5_plan_59 rfl 0 rfl ?_
              refine r_aald hb 62 dX5_plan_61 rfl lh (by decide) (k - 1) (by omega) (⟨by omega, by omega⟩) (pl + 10 + 4 * (k - 1)) (hch (k - 1) (by omega)) ?_
              refine r_aload_n hb 63 dX5_plan_62 rfl 1 rfl ?_
              refine r_get hb ho 66 dX5_plan_63 rfl lk_X5_11 pf_X5_0 lc rfl ?_
              refine r_iload hb 68 dX5_plan_66 rfl 0 rfl ?_
              refine r_aald hb 69 dX5_plan_68 rfl lo (by decide) (k - 1) (by omega) (⟨by omega, by omega⟩) (pa (o (k - 1))) (hok1) ?_
              refine r_aload_n hb 70 dX5_plan_69 rfl 2 rfl ?_
              refine r_iload_n hb 71 dX5_plan_70 rfl 3 rfl ?_
              refine r_aload_n hb 72 dX5_plan_71 rfl 4 rfl ?_
              refine r_callV0 (st := []) hb ho 75 dX5_plan_72 rfl ck_X5_48 (c_X0_weigh (pl + 10 + 4 * (k - 1)) sz sc en sm (pa (o (k - 1))) (g + 1) f (xs (o (k - 1))) D thr b0 b1 b2 eh ri hC fc hR (gN _ (by omega)) gT (by rw [hx _ hok3]; exact hok _ hok3) (by omega) (by omega) (by omega) (by omega) (by omega) ht) rfl rfl (hC.1) rfl rfl (by rw [hR0]; exact ⟨Nat.le_of_ble_eq_true rfl, Nat.le_of_ble_eq_true rfl⟩) (Nat.le_of_ble_eq_true rfl) ⟨rfl, rfl⟩ (by rw [hR0]; exact Nat.zero_le _) (by rw [hR0]; exact Nat.zero_le _) (fun w_72 nw_72 qw_72 => ?_)
              obtain ⟨rfl, ⟨sc1, en1, hC, hsc⟩, ⟨eh1, fc⟩, ⟨rj, hR⟩, ow_72⟩ := qw_72
              have lc : w_72 pl = some (eO 5 [.ref (pl + 1), .ref (pl + 2), .int (iI (((c : Nat) : Int)))]) := (ow_72 _ (by omega) (by omega)).trans lc
              have lo : w_72 (pl + 1) = some (eQ 3 10 oh) := (ow_72 _ (by omega) (by omega)).trans lo
              have lh : w_72 (pl + 2) = some (eQ 2 11 ch) := (ow_72 _ (by omega) (by omega)).trans lh
              have hG : pgo w_72 g D h pa xs l.length nx := hG.off2 ow_72 (by omega) (by omega)
              have hC2 := hC2.off2 ow_72 (by omega) (by omega)
              refine r_aload_n hb 76 dX5_plan_75 rfl 1 rfl ?_
              refine r_get hb ho 79 dX5_plan_76 rfl lk_X5_19 pf_X5_1 lc rfl ?_
              refine r_iload hb 81 dX5_plan_79 rfl 0 rfl ?_
              refine r_aald hb 82 dX5_plan_81 rfl lh (by decide) (k - 1) (by omega) (⟨by omega, by omega⟩) (pl + 10 + 4 * (k - 1)) (hch (k - 1) (by omega)) ?_
              refine r_aload_n hb 83 dX5_plan_82 rfl 1 rfl ?_
              refine r_get hb ho 86 dX5_plan_83 rfl lk_X5_19 pf_X5_1 lc rfl ?_
              refine r_iload hb 88 dX5_plan_86 rfl 0 rfl ?_
              refine r_iconst hb 89 dX5_plan_88 rfl ?_
              refine r_iaddZ hb 90 (((k : Nat) : Int)) dX5_plan_89 rfl (by omega) ?_
              refine r_aald hb 91 dX5_plan_90 rfl lh (by decide) k (by omega) (⟨by omega, by omega⟩) (pl + 10 + 4 * k) (hch k (by omega)) ?_
              rw [hx _ hok3] at hsc
              have hbk := fun p (hp : p ≤ 120) => smN_bd hok (D := D) (by omega) ht.1 (c := c) (o := o) (fun j hj => (hor j hj).2) (c - k) (by omega) p
              refine r_callV0 (st := []) hb ho 94 dX5_plan_91 rfl ck_X5_52 (c_X0_addUp (pl + 10 + 4 * (k - 1)) D.length sc1 en1 sm (pl + 10 + 4 * k) sz2 sc2 en2 sm2 hC hC2 (by omega) (by omega) (fun p hp => by rw [(hsc p hp).1]; rcases elN_bd (hok _ hok3) D ht.1 (p := p) (by omega) with hh | hh <;> omega) (fun p hp => by rw [hok2.1 p hp]; have := hbk p hp; omega)) rfl rfl (hC.1) rfl rfl (by rw [hR0]; exact ⟨Nat.le_of_ble_eq_true rfl, Nat.le_of_ble_eq_true rfl⟩) (Nat.le_of_ble_eq_true rfl) ⟨rfl, rfl⟩ (by rw [hR0]; exact Nat.zero_le _) (by rw [hR0]; exact Nat.zero_le _) (fun w_91 nw_91 qw_91 => ?_)
              obtain ⟨rfl, ⟨sm1, hC3, hsm3⟩, ow_91⟩ := qw_91
              have lc : w_91 pl = some (eO 5 [.ref (pl + 1), .ref (pl + 2), .int (iI (((c : Nat) : Int)))]) := (ow_91 _ (by omega)).trans lc
              have lo : w_91 (pl + 1) = some (eQ 3 10 oh) := (ow_91 _ (by omega)).trans lo
              have lh : w_91 (pl + 2) = some (eQ 2 11 ch) := (ow_91 _ (by omega)).trans lh
              have hG : pgo w_91 g D h pa xs l.length nx := hG.off ow_91 (by omega)
              have fc := fc.off ow_91 (by omega)
              have hR := hR.off ow_91 (by omega)
              refine r_iinc [(4, .int (iI (((k : Nat) : Int) - 2))), (0, .ref pl), (1, .ref (g + 1)), (2, .int (iI (thr))), (3, .ref f)] hb 97 5 0 dX5_plan_94 rfl rfl hnL (by decide) (((k : Nat) : Int) - 2) (by omega) rfl ?_
              refine r_goto hb 40 dX5_plan_97 (by decide) ?_
              refine r_lv [(4, .int (iI ((((k - 1 : Nat) : Nat) : Int) - 1))), (0, .ref pl), (1, .ref (g + 1)), (2, .int (iI thr)), (3, .ref f)] [0, 1, 2, 3, 4] (by rw [show (((k - 1 : Nat) : Nat) : Int) - 1 = (k : Int) - 2 by omega]; rfl) ?_
              exact ih_lp (k - 1) (by omega) (k - 1) _ _ _ rfl (by omega) ⟨lc, lo, lh, hch⟩ hG (plan_step hk0 hk hc hH ow_72 ow_91 hf hC3 hsc hsm3 hok2.1) fc hR ((hO.trans (ow_72.mono (by omega) (by omega) (by omega) (by omega))).trans (off_l ow_91 (by omega) (by omega) _ _))
      refine r_lv [(4, .int (iI (((c : Nat) : Int) - 1))), (0, .ref pl), (1, .ref (g + 1)), (2, .int (iI thr)), (3, .ref f)] [0, 1, 2, 3, 4] rfl ?_
      refine lp _ c _ _ _ rfl (Nat.le_refl _) ⟨lc, lo, lh, hch⟩ hG ?_ fc hR (off_l ow_29 (by omega) (by omega) _ _)
      intro j hj
      by_cases e : j = c
      · subst e; exact ⟨_, _, _, sm1, hC1, fun _ _ => ⟨fun p hp => by rw [hz1 p hp, Nat.sub_self]; rfl, fun h => absurd h (by omega)⟩⟩
      · obtain ⟨sz, sc, en, sm, h3⟩ := hA j hj
        exact ⟨sz, sc, en, sm, h3.off ow_29 (by omega), fun h4 h5 => absurd (Nat.le_antisymm h5 h4) e⟩
    · exfalso; omega

abbrev rm_X5_carryOut : Room := { frames := 2, cells := 0, slots := 0, locals := 47 }
set_option maxHeartbeats 4000000 in
set_option maxRecDepth 100000 in
theorem c_X5_carryOut (pl c : Nat) (oh ch : Nat → Option Nat) (o : Nat → Nat) (thr : Int) (g nx : Nat) (D : List Int32) (h : Nat → Option Nat) (pa : Nat → Nat) (xs : Nat → Nt) (l : List Nt) {w : PW} {n : Nat} (hL : plo w pl c oh ch) (hG : pgo w g D h pa xs l.length nx) (hx : ∀ j, j < l.length → xs j = lg l j) (hc : c ≤ 10) (hor : ∀ j, j < c → oh j = some (pa (o j)) ∧ o j < l.length) (hd : pl + 54 ≤ g ∨ g + 74 ≤ pl) (hok : ∀ j, j < l.length → nOk (lg l j)) (hH : chG w pl l D thr o c 0) (ht : 0 ≤ thr ∧ thr ≤ 108) (hD : D.length ≤ 120) : Ct1 yX5_carryOut cX5_carryOut 5 (some .int) rm_X5_carryOut [.ref pl] w n (fun v w1 n1 => v = .int (iI (((coN l D thr o c c).2.2 : Nat) : Int)) ∧ n = n1 ∧ (∃ xs1, pgo w1 g D h pa xs1 l.length nx ∧ ∀ j, j < l.length → xs1 j = lg (coN l D thr o c c).1 j) ∧ off w w1 g (g + 74)) := by
  obtain ⟨lc, lo, lh, hch⟩ := id hL
  obtain ⟨gc, gT, gcl, gnx, ⟨ga, gh⟩, ⟨gs1, gs2⟩, gN⟩ := id hG
  have gd := gT.1
  have gdl := gT.2.1
  refine Ctr.of rfl (Nat.le_of_ble_eq_true rfl) fun S hS => ?_
  have hb : S.1.1 = cX5_carryOut := by rw [hS]; rfl
  have ho : S.1.2.1 = RX5 := by rw [hS]; rfl
  have hnL : S.1.2.2.1 = 5 := by rw [hS]; rfl
  have hR0 : S.2.1 = rm_X5_carryOut := by rw [hS]; rfl
  show Wp S 0 [(0, .ref pl)] [] w n 0 0
  refine r_iconst hb 1 dX5_carryOut_0 rfl ?_
  refine r_istore_n [(1, .int (iI 0)), (0, .ref pl)] hb 2 5 dX5_carryOut_1 rfl rfl hnL (by decide) rfl ?_
  refine r_iconst hb 3 dX5_carryOut_2 rfl ?_
  refine r_istore_n [(2, .int (iI 0)), (1, .int (iI 0)), (0, .ref pl)] hb 4 5 dX5_carryOut_3 rfl rfl hnL (by decide) rfl ?_
  refine r_iconst hb 5 dX5_carryOut_4 rfl ?_
  refine r_istore_n [(3, .int (iI 0)), (2, .int (iI 0)), (1, .int (iI 0)), (0, .ref pl)] hb 6 5 dX5_carryOut_5 rfl rfl hnL (by decide) rfl ?_
  have lp : ∀ (d : Nat) (i : Nat) (wi : PW) (xi : Nat → Nt), c - i = d → (i ≤ c) → (plo wi pl c oh ch) → (pgo wi g D h pa xi l.length nx) → (∀ j, j < l.length → xi j = lg (coN l D thr o c i).1 j) → (chG wi pl l D thr o c 0) → ((coN l D thr o c i).2.1 ≤ 120) → (off w wi g (g + 74)) → Wp S 6 [(3, .int (iI (((i : Nat) : Int)))), (2, .int (iI ((((coN l D thr o c i).2.1 : Nat) : Int)))), (1, .int (iI ((((coN l D thr o c i).2.2 : Nat) : Int)))), (0, .ref pl)] [] wi n 0 0 := by
    intro d
    induction d using Nat.strongRecOn with
    | _ d ih_lp =>
      intro i wi xi hd_lp hi hL hG hxi hH hfr hO
      obtain ⟨lc, lo, lh, hch⟩ := id hL
      obtain ⟨gc, gT, gcl, gnx, ⟨ga, gh⟩, ⟨gs1, gs2⟩, gN⟩ := id hG
      have gd := gT.1
      have gdl := gT.2.1
      have hct := coN_cnt l D thr o c i
      refine r_iload_n hb 7 dX5_carryOut_6 rfl 0 rfl ?_
      refine r_aload_n hb 8 dX5_carryOut_7 rfl 3 rfl ?_
      refine r_get hb ho 11 dX5_carryOut_8 rfl lk_X5_25 pf_X5_2 lc rfl ?_
      refine r_icmp_ge hb 14 96 dX5_carryOut_11 rfl (by decide) (by omega) (by omega) (fun c11 => ?_) (fun c11 => ?_)
      · refine r_iload_n hb 97 dX5_carryOut_96 rfl 2 rfl ?_
        refine r_iret hS dX5_carryOut_97 rfl rfl (Nat.zero_le _) (Nat.zero_le _) ?_
        have ei : i = c := by omega
        subst ei
        exact ⟨_, rfl, rfl, rfl, ⟨xi, hG, hxi⟩, hO⟩
      · refine r_iload_n hb 15 dX5_carryOut_14 rfl 0 rfl ?_
        refine r_aload_n hb 16 dX5_carryOut_15 rfl 3 rfl ?_
        refine r_get hb ho 19 dX5_carryOut_16 rfl lk_X5_11 pf_X5_0 lc rfl ?_
        refine r_alen hb 20 dX5_carryOut_19 rfl lo (by decide) 10 rfl ?_
        refine r_icmp_ge hb 23 96 dX5_carryOut_20 rfl (by decide) (by omega) (by omega) (fun c20 => ?_) (fun c20 => ?_)
        · exfalso; omega
        · refine r_iload_n hb 24 dX5_carryOut_23 rfl 0 rfl ?_
          refine r_iconst hb 25 dX5_carryOut_24 rfl ?_
          refine r_iaddZ hb 26 (((i : Nat) : Int) + 1) dX5_carryOut_25 rfl (by omega) ?_
          refine r_aload_n hb 27 dX5_carryOut_26 rfl 3 rfl ?_
          refine r_get hb ho 30 dX5_carryOut_27 rfl lk_X5_19 pf_X5_1 lc rfl ?_
          refine r_alen hb 31 dX5_carryOut_30 rfl lh (by decide) 11 rfl ?_
          refine r_icmp_ge hb 34 96 dX5_carryOut_31 rfl (by decide) (by omega) (by omega) (fun c31 => ?_) (fun c31 => ?_)
          · exfalso; omega
          · refine r_aload_n hb 35 dX5_carryOut_34 rfl 3 rfl ?_
            refine r_get hb ho 38 dX5_carryOut_35 rfl lk_X5_19 pf_X5_1 lc rfl ?_
            refine r_iload_n hb 39 dX5_carryOut_38 rfl 0 rfl ?_
            refine r_aald hb 40 dX5_carryOut_39 rfl lh (by decide) i (by omega) (⟨by omega, by omega⟩) (pl + 10 + 4 * i) (hch i (by omega)) ?_
            refine r_iload_n hb 41 dX5_carryOut_40 rfl 1 rfl ?_
            refine r_aload_n hb 42 dX5_carryOut_41 rfl 3 rfl ?_
            refine r_get hb ho 45 dX5_carryOut_42 rfl lk_X5_19 pf_X5_1 lc rfl ?_
            refine r_iload_n hb 46 dX5_carryOut_45 rfl 0 rfl ?_
            refine r_iconst hb 47 dX5_carryOut_46 rfl ?_
            refine r_iaddZ hb 48 (((i : Nat) : Int) + 1) dX5_carryOut_47 rfl (by omega) ?_
            refine r_aald hb 49 dX5_carryOut_48 rfl lh (by decide) (i + 1) (by omega) (⟨by omega, by omega⟩) (pl + 10 + 4 * (i + 1)) (hch (i + 1) (by omega)) ?_
            obtain ⟨ho1, ho2⟩ := hor i (by omega)
            obtain ⟨sz, sc, en, sm, hC, hk1⟩ := hH i (by omega)
            obtain ⟨hk2, hk3⟩ := hk1 (Nat.zero_le _) (by omega)
            obtain ⟨hk4, hk5⟩ := hk3 (by omega)
            obtain ⟨sz2, sc2, en2, sm2, hC2, hk6⟩ := hH (i + 1) (by omega)
            have hk7 := (hk6 (Nat.zero_le _) (by omega)).1
            have hb1 := fun p => smN_bd hok hD ht.1 (c := c) (o := o) (fun j hj => (hor j hj).2) (c - (i + 1)) (by omega) p
            have hb2 := smN_bd hok hD ht.1 (c := c) (o := o) (fun j hj => (hor j hj).2) (c - i) (by omega) (coN l D thr o c i).2.1
            have est : (chS sc sm2 (sm (coN l D thr o c i).2.1) (coN l D thr o c i).2.1 (sz - (coN l D thr o c i).2.1)).2 = stN l D thr o c i (coN l D thr o c i).2.1 := by
              unfold stN
              rw [hk2 _ hfr, hk4, chS_congr (sz := D.length) (fun p hp => (hk5 p hp).1) hk7 hD _ (by omega)]
            refine r_callVR (st := []) hb ho 52 dX5_carryOut_49 rfl ck_X5_56 (c_X0_choose (pl + 10 + 4 * i) sz sc en sm (pl + 10 + 4 * (i + 1)) sz2 (coN l D thr o c i).2.1 sc2 en2 sm2 hC hC2 (by omega) hfr (fun p hp => by rw [(hk5 p (by omega)).1]; rcases elN_bd (hok _ ho2) D ht.1 (p := p) (by omega) with hh | hh <;> omega) (fun p hp => by rw [hk7 p hp]; have := hb1 p; omega) (by rw [hk2 _ hfr]; omega)) rfl rfl (hC.1) rfl rfl (by rw [hR0]; exact ⟨Nat.le_of_ble_eq_true rfl, Nat.le_of_ble_eq_true rfl⟩) (Nat.le_of_ble_eq_true rfl) ⟨rfl, rfl⟩ (by rw [hR0]; exact Nat.zero_le _) (by rw [hR0]; exact Nat.zero_le _) ?_
            refine r_topv (.int (iI ((stN l D thr o c i (coN l D thr o c i).2.1)))) (by rw [est]) ?_
            refine r_istore [(4, .int (iI ((stN l D thr o c i (coN l D thr o c i).2.1)))), (3, .int (iI (((i : Nat) : Int)))), (2, .int (iI ((((coN l D thr o c i).2.1 : Nat) : Int)))), (1, .int (iI ((((coN l D thr o c i).2.2 : Nat) : Int)))), (0, .ref pl)] hb 54 5 dX5_carryOut_52 rfl hnL (by decide) rfl ?_
            by_cases hst : stN l D thr o c i (coN l D thr o c i).2.1 = -1005
            · rw [hst]
              refine r_iload hb 56 dX5_carryOut_54 rfl 0 rfl ?_
              refine r_sipush (-1005) hb 59 dX5_carryOut_56 rfl rfl ?_
              refine r_icmp_eq hb 62 90 dX5_carryOut_59 rfl (by decide) (by omega) (by omega) (fun c59 => ?_) (fun c59 => ?_)
              · refine r_iinc [(3, .int (iI (((i : Nat) : Int) + 1))), (4, .int (iI (-1005))), (2, .int (iI ((((coN l D thr o c i).2.1 : Nat) : Int)))), (1, .int (iI ((((coN l D thr o c i).2.2 : Nat) : Int)))), (0, .ref pl)] hb 93 5 1 dX5_carryOut_90 rfl rfl hnL (by decide) (((i : Nat) : Int) + 1) (by omega) rfl ?_
                refine r_goto hb 6 dX5_carryOut_93 (by decide) ?_
                have e := coN_no hst
                refine r_lv [(3, .int (iI (((i + 1 : Nat)) : Int))), (2, .int (iI (((coN l D thr o c (i + 1)).2.1 : Nat) : Int))), (1, .int (iI (((coN l D thr o c (i + 1)).2.2 : Nat) : Int))), (0, .ref pl)] [0, 2, 3, 4] (by rw [e]; rfl) ?_
                exact ih_lp (c - (i + 1)) (by omega) (i + 1) _ _ rfl (by omega) hL hG (by rw [e]; exact hxi) hH (by rw [e]; exact hfr) hO
              · exfalso; omega
            · obtain ⟨s, hs, hs1, hs2, hs3⟩ := (stN_cases l D thr o c i (coN l D thr o c i).2.1).resolve_left hst
              obtain ⟨e, he, he1, he2⟩ := elN_ne (hok _ ho2) ht.1 (by omega) hs3
              rw [hs]
              refine r_iload hb 56 dX5_carryOut_54 rfl 0 rfl ?_
              refine r_sipush (-1005) hb 59 dX5_carryOut_56 rfl rfl ?_
              refine r_icmp_eq hb 62 90 dX5_carryOut_59 rfl (by decide) (by omega) (by omega) (fun c59 => ?_) (fun c59 => ?_)
              · exfalso; omega
              · refine r_aload_n hb 63 dX5_carryOut_62 rfl 4 rfl ?_
                refine r_get hb ho 66 dX5_carryOut_63 rfl lk_X5_11 pf_X5_0 lc rfl ?_
                refine r_iload_n hb 67 dX5_carryOut_66 rfl 1 rfl ?_
                refine r_aald hb 68 dX5_carryOut_67 rfl lo (by decide) i (by omega) (⟨by omega, by omega⟩) (pa (o i)) (ho1) ?_
                have n0 := (gN (o i) (by omega)).1
                have hso := gs1 (o i) (by omega)
                refine r_iload hb 70 dX5_carryOut_68 rfl 0 rfl ?_
                refine r_aload_n hb 71 dX5_carryOut_70 rfl 4 rfl ?_
                refine r_get hb ho 74 dX5_carryOut_71 rfl lk_X5_19 pf_X5_1 lc rfl ?_
                refine r_iload_n hb 75 dX5_carryOut_74 rfl 1 rfl ?_
                refine r_aald hb 76 dX5_carryOut_75 rfl lh (by decide) i (by omega) (⟨by omega, by omega⟩) (pl + 10 + 4 * i) (hch i (by omega)) ?_
                refine r_iload hb 78 dX5_carryOut_76 rfl 0 rfl ?_
                refine r_callVR (st := [.int (iI (((s : Nat) : Int))), .ref (pa (o i))]) hb ho 81 dX5_carryOut_78 rfl ck_X5_60 (c_X0_endAt (pl + 10 + 4 * i) sz sc en sm s hC (by omega)) rfl rfl (hC.1) rfl rfl (by rw [hR0]; exact ⟨Nat.le_of_ble_eq_true rfl, Nat.le_of_ble_eq_true rfl⟩) (Nat.le_of_ble_eq_true rfl) ⟨rfl, rfl⟩ (by rw [hR0]; exact Nat.zero_le _) (by rw [hR0]; exact Nat.zero_le _) ?_
                refine r_topv (.int (iI ((((gE s (bA (lg l (o i)) D s)).toNat : Nat) : Int)))) (by rw [(hk5 s hs2).2, he]; rfl) ?_
                refine r_callV0 (st := []) hb ho 84 dX5_carryOut_81 rfl ck_X5_64 (c_X3_attachTo (pa (o i)) (xi (o i)) s (gE s (bA (lg l (o i)) D s)).toNat (gN _ (by omega)) (by omega) (by omega)) rfl rfl (n0) rfl rfl (by rw [hR0]; exact ⟨Nat.le_of_ble_eq_true rfl, Nat.le_of_ble_eq_true rfl⟩) (Nat.le_of_ble_eq_true rfl) ⟨rfl, rfl⟩ (by rw [hR0]; exact Nat.zero_le _) (by rw [hR0]; exact Nat.zero_le _) (fun w_81 nw_81 qw_81 => ?_)
                obtain ⟨rfl, hnew, ow_81⟩ := qw_81
                have hG := pgo_note hG (by omega) hnew ow_81
                refine r_iload hb 86 dX5_carryOut_84 rfl 0 rfl ?_
                refine r_istore_n [(2, .int (iI (((s : Nat) : Int)))), (4, .int (iI (((s : Nat) : Int)))), (3, .int (iI (((i : Nat) : Int)))), (1, .int (iI ((((coN l D thr o c i).2.2 : Nat) : Int)))), (0, .ref pl)] hb 87 5 dX5_carryOut_86 rfl rfl hnL (by decide) rfl ?_
                refine r_iinc [(1, .int (iI ((((coN l D thr o c i).2.2 : Nat) : Int) + 1))), (2, .int (iI (((s : Nat) : Int)))), (4, .int (iI (((s : Nat) : Int)))), (3, .int (iI (((i : Nat) : Int)))), (0, .ref pl)] hb 90 5 3 dX5_carryOut_87 rfl rfl hnL (by decide) ((((coN l D thr o c i).2.2 : Nat) : Int) + 1) (by omega) rfl ?_
                refine r_iinc [(3, .int (iI (((i : Nat) : Int) + 1))), (1, .int (iI ((((coN l D thr o c i).2.2 : Nat) : Int) + 1))), (2, .int (iI (((s : Nat) : Int)))), (4, .int (iI (((s : Nat) : Int)))), (0, .ref pl)] hb 93 5 3 dX5_carryOut_90 rfl rfl hnL (by decide) (((i : Nat) : Int) + 1) (by omega) rfl ?_
                refine r_goto hb 6 dX5_carryOut_93 (by decide) ?_
                have e := coN_yes hs
                refine r_lv [(3, .int (iI (((i + 1 : Nat)) : Int))), (2, .int (iI (((coN l D thr o c (i + 1)).2.1 : Nat) : Int))), (1, .int (iI (((coN l D thr o c (i + 1)).2.2 : Nat) : Int))), (0, .ref pl)] [0, 2, 1, 4] (by rw [e]; rfl) ?_
                refine ih_lp (c - (i + 1)) (by omega) (i + 1) _ _ rfl (by omega) (hL.off ow_81 (by omega)) hG ?_ (hH.off ow_81 (by omega)) (by rw [e]; show s ≤ 120; omega) (hO.trans (ow_81.mono (by omega) (by omega)))
                intro j hj
                rw [e]
                by_cases e1 : j = o i
                · subst e1
                  rw [updX_s, hxi _ hj]
                  simp [lg, List.getD_eq_getElem?_getD, coN_len, hj]
                · rw [updX_n _ _ e1, hxi j hj]
                  simp [lg, List.getD_eq_getElem?_getD, List.getElem?_set, Ne.symm e1]
  refine r_lv [(3, .int (iI (((0 : Nat)) : Int))), (2, .int (iI (((coN l D thr o c 0).2.1 : Nat) : Int))), (1, .int (iI (((coN l D thr o c 0).2.2 : Nat) : Int))), (0, .ref pl)] [0, 1, 2, 3] rfl ?_
  exact lp _ 0 _ xs rfl (Nat.zero_le _) hL hG hx hH (Nat.zero_le _) (off.rfl' _ _ _)

abbrev rm_X5_init : Room := { frames := 3, cells := 53, slots := 4078, locals := 62 }
set_option maxHeartbeats 4000000 in
set_option maxRecDepth 100000 in
theorem c_X5_init (pl : Nat) {w : PW}  (h0 : w pl = some (eO 5 [.null, .null, .int (iI 0)])) : Ct0 yX5_init cX5_init 3 none rm_X5_init [.ref pl] w (pl + 1) (fun w1 n1 => n1 = pl + 54 ∧ (∃ oh ch, plo w1 pl 0 oh ch) ∧ chA w1 pl ∧ off w w1 pl (pl + 54)) := by
  refine Ctr.of rfl (Nat.le_of_ble_eq_true rfl) fun S hS => ?_
  have hb : S.1.1 = cX5_init := by rw [hS]; rfl
  have ho : S.1.2.1 = RX5 := by rw [hS]; rfl
  have hnL : S.1.2.2.1 = 3 := by rw [hS]; rfl
  have hR0 : S.2.1 = rm_X5_init := by rw [hS]; rfl
  have hnm : S.1.2.2.2.2 = "<init>" := by rw [hS]; rfl
  show Wp S 0 [(0, .ref pl)] [] w (pl + 1) 0 0
  refine r_aload_n hb 1 dX5_init_0 rfl 0 rfl ?_
  refine r_objInit hb ho 4 dX5_init_1 rfl ck_X5_3 ob_i ob_c (by rw [hR0]; exact Nat.le_of_ble_eq_true rfl) (by rw [hR0]; exact Nat.le_of_ble_eq_true rfl) ?_
  refine r_aload_n hb 5 dX5_init_4 rfl 0 rfl ?_
  refine r_bipush 10 hb 7 dX5_init_5 rfl rfl ?_
  refine r_newQ (N := 10) (k := 3) hb ho 10 dX5_init_7 rfl (fun _ => rfl) kc_X5_9 ko_X3 (rfl) (by omega) (by rw [hR0]; exact Nat.le_of_ble_eq_true rfl) (by rw [hR0]; exact Nat.le_of_ble_eq_true rfl) (fun w_7 hw_7 => ?_)
  have ow_7 := pset_off hw_7
  have fw_7 : w_7 (pl + 1) = some (eQ 3 10 (fun _ => none)) := by rw [hw_7]; exact pset_eq _ _ _
  have h0 : w_7 pl = some (eO 5 [.null, .null, .int (iI 0)]) := (ow_7 _ (by omega)).trans h0
  refine r_putF hb ho hnm rfl 13 dX5_init_10 rfl lkw_X5_11 pf_X5_0 h0 (Nat.le_of_ble_eq_true rfl) ⟨rfl, rfl⟩ (fun w_10 hw_10 => ?_)
  have ow_10 := pset_off hw_10
  have xw_10 : w_10 pl = some (eO 5 [.ref ((pl + 1)), .null, .int (iI 0)]) := by rw [hw_10]; exact pset_eq _ _ _
  have fw_7 : w_10 (pl + 1) = some (eQ 3 10 (fun _ => none)) := (ow_10 _ (by omega)).trans fw_7
  refine r_aload_n hb 14 dX5_init_13 rfl 0 rfl ?_
  refine r_bipush 11 hb 16 dX5_init_14 rfl rfl ?_
  refine r_newQ (N := 11) (k := 2) hb ho 19 dX5_init_16 rfl (fun _ => rfl) kc_X5_17 ko_X0 (rfl) (by omega) (by rw [hR0]; exact Nat.le_of_ble_eq_true rfl) (by rw [hR0]; exact Nat.le_of_ble_eq_true rfl) (fun w_16 hw_16 => ?_)
  have ow_16 := pset_off hw_16
  have fw_16 : w_16 (pl + 2) = some (eQ 2 11 (fun _ => none)) := by rw [hw_16]; exact pset_eq _ _ _
  have xw_10 : w_16 pl = some (eO 5 [.ref ((pl + 1)), .null, .int (iI 0)]) := (ow_16 _ (by omega)).trans xw_10
  have fw_7 : w_16 (pl + 1) = some (eQ 3 10 (fun _ => none)) := (ow_16 _ (by omega)).trans fw_7
  refine r_putF hb ho hnm rfl 22 dX5_init_19 rfl lkw_X5_19 pf_X5_1 xw_10 (Nat.le_of_ble_eq_true rfl) ⟨rfl, rfl⟩ (fun w_19 hw_19 => ?_)
  have ow_19 := pset_off hw_19
  have xw_19 : w_19 pl = some (eO 5 [.ref ((pl + 1)), .ref ((pl + 2)), .int (iI 0)]) := by rw [hw_19]; exact pset_eq _ _ _
  have fw_16 : w_19 (pl + 2) = some (eQ 2 11 (fun _ => none)) := (ow_19 _ (by omega)).trans fw_16
  have fw_7 : w_19 (pl + 1) = some (eQ 3 10 (fun _ => none)) := (ow_19 _ (by omega)).trans fw_7
  refine r_new hb ho 25 dX5_init_22 rfl (kn_X3 kc_X5_9) (by rw [hR0]; exact Nat.le_of_ble_eq_true rfl) (by rw [hR0]; exact Nat.le_of_ble_eq_true rfl) (fun w_22 hw_22 => ?_)
  have ow_22 := pset_off hw_22
  have fw_22 : w_22 (pl + 3) = some (eO 3 [.null, .null, .null, .int (iI 0), .int (iI 0), .int (iI 0), .int (iI 0), .int (iI 0)]) := by rw [hw_22]; exact pset_eq _ _ _
  have xw_19 : w_22 pl = some (eO 5 [.ref ((pl + 1)), .ref ((pl + 2)), .int (iI 0)]) := (ow_22 _ (by omega)).trans xw_19
  have fw_16 : w_22 (pl + 2) = some (eQ 2 11 (fun _ => none)) := (ow_22 _ (by omega)).trans fw_16
  have fw_7 : w_22 (pl + 1) = some (eQ 3 10 (fun _ => none)) := (ow_22 _ (by omega)).trans fw_7
  refine r_dup hb 26 dX5_init_25 rfl rfl ?_
  refine r_callN0 (st := [.ref ((pl + 3))]) hb ho 29 dX5_init_26 rfl ck_X5_23 (c_X3_init (pl + 3) fw_22) rfl rfl (by rw [hR0]; exact ⟨Nat.le_of_ble_eq_true rfl, Nat.le_of_ble_eq_true rfl⟩) (Nat.le_of_ble_eq_true rfl) (by rw [hR0]; exact Nat.le_of_ble_eq_true rfl) (by rw [hR0]; exact Nat.le_of_ble_eq_true rfl) (fun w_26 nw_26 qw_26 => ?_)
  obtain ⟨rfl, hnb, ow_26⟩ := qw_26
  have xw_19 : w_26 pl = some (eO 5 [.ref ((pl + 1)), .ref ((pl + 2)), .int (iI 0)]) := (ow_26 _ (by omega)).trans xw_19
  have fw_16 : w_26 (pl + 2) = some (eQ 2 11 (fun _ => none)) := (ow_26 _ (by omega)).trans fw_16
  have fw_7 : w_26 (pl + 1) = some (eQ 3 10 (fun _ => none)) := (ow_26 _ (by omega)).trans fw_7
  refine r_astore_n [(1, .ref ((pl + 3))), (0, .ref pl)] hb 30 3 dX5_init_29 rfl rfl hnL (by decide) rfl ?_
  refine r_iconst hb 31 dX5_init_30 rfl ?_
  refine r_istore_n [(2, .int (iI 0)), (1, .ref ((pl + 3))), (0, .ref pl)] hb 32 3 dX5_init_31 rfl rfl hnL (by decide) rfl ?_
  have lp : ∀ (d : Nat) (i : Nat) (wi : PW) (hi : Nat → Option Nat), 10 - i = d → (i ≤ 10) → (wi pl = some (eO 5 [.ref (pl + 1), .ref (pl + 2), .int (iI 0)])) → (wi (pl + 1) = some (eQ 3 10 hi)) → (wi (pl + 2) = some (eQ 2 11 (fun _ => none))) → (nt wi (pl + 3) nt0) → (off w wi pl (pl + 54)) → Wp S 32 [(2, .int (iI (((i : Nat) : Int)))), (1, .ref (pl + 3)), (0, .ref pl)] [] wi (pl + 10) 9 63 := by
    intro d
    induction d using Nat.strongRecOn with
    | _ d ih_lp =>
      intro i wi hi hd_lp hi10 lc lo lh hnb hO
      refine r_iload_n hb 33 dX5_init_32 rfl 0 rfl ?_
      refine r_aload_n hb 34 dX5_init_33 rfl 2 rfl ?_
      refine r_get hb ho 37 dX5_init_34 rfl lk_X5_11 pf_X5_0 lc rfl ?_
      refine r_alen hb 38 dX5_init_37 rfl lo (by decide) 10 rfl ?_
      refine r_icmp_ge hb 41 54 dX5_init_38 rfl (by decide) (by omega) (by omega) (fun c38 => ?_) (fun c38 => ?_)
      · refine r_iconst hb 55 dX5_init_54 rfl ?_
        refine r_istore_n [(2, .int (iI 0)), (1, .ref (pl + 3)), (0, .ref pl)] hb 56 3 dX5_init_55 rfl rfl hnL (by decide) rfl ?_
        have lq : ∀ (d : Nat) (i : Nat) (wi : PW) (hi hc : Nat → Option Nat), 11 - i = d → (i ≤ 11) → (wi pl = some (eO 5 [.ref (pl + 1), .ref (pl + 2), .int (iI 0)])) → (wi (pl + 1) = some (eQ 3 10 hi)) → (wi (pl + 2) = some (eQ 2 11 hc)) → (∀ j, j < i → hc j = some (pl + 10 + 4 * j)) → (∀ j, j < i → chp wi (pl + 10 + 4 * j) 0 (fun _ => 0) (fun _ => 0) (fun _ => 0)) → (off w wi pl (pl + 54)) → Wp S 56 [(2, .int (iI (((i : Nat) : Int)))), (1, .ref (pl + 3)), (0, .ref pl)] [] wi (pl + 10 + 4 * i) (9 + 4 * i) (63 + 365 * i) := by
          intro d
          induction d using Nat.strongRecOn with
          | _ d ih_lq =>
            intro i wi hi hc hd_lq hi11 lc lo lh hhc hch hO
            refine r_iload_n hb 57 dX5_init_56 rfl 0 rfl ?_
            refine r_aload_n hb 58 dX5_init_57 rfl 2 rfl ?_
            refine r_get hb ho 61 dX5_init_58 rfl lk_X5_19 pf_X5_1 lc rfl ?_
            refine r_alen hb 62 dX5_init_61 rfl lh (by decide) 11 rfl ?_
            refine r_icmp_ge hb 65 84 dX5_init_62 rfl (by decide) (by omega) (by omega) (fun c62 => ?_) (fun c62 => ?_)
            · refine r_vret hS dX5_init_84 rfl ((by show 9 + 4 * i ≤ 53; omega)) ((by show 63 + 365 * i ≤ 4078; omega)) ?_
              have ei : i = 11 := by omega
              subst ei
              exact ⟨rfl, rfl, ⟨hi, hc, lc, lo, lh, hhc⟩, fun j hj => ⟨_, _, _, _, hch j hj⟩, hO⟩
            · refine r_aload_n hb 66 dX5_init_65 rfl 2 rfl ?_
              refine r_get hb ho 69 dX5_init_66 rfl lk_X5_19 pf_X5_1 lc rfl ?_
              refine r_iload_n hb 70 dX5_init_69 rfl 0 rfl ?_
              refine r_new hb ho 73 dX5_init_70 rfl (kn_X0 kc_X5_17) (by rw [hR0]; show 9 + 4 * i + 1 ≤ 53; omega) (by rw [hR0]; show 63 + 365 * i + 4 ≤ 4078; omega) (fun w_70 hw_70 => ?_)
              have ow_70 := pset_off hw_70
              have fw_70 : w_70 (pl + 10 + 4 * i) = some (eO 0 [.null, .null, .null, .int (iI 0)]) := by rw [hw_70]; exact pset_eq _ _ _
              have lc : w_70 pl = some (eO 5 [.ref (pl + 1), .ref (pl + 2), .int (iI 0)]) := (ow_70 _ (by omega)).trans lc
              have lo : w_70 (pl + 1) = some (eQ 3 10 hi) := (ow_70 _ (by omega)).trans lo
              have lh : w_70 (pl + 2) = some (eQ 2 11 hc) := (ow_70 _ (by omega)).trans lh
              refine r_dup hb 74 dX5_init_73 rfl rfl ?_
              refine r_callN0 (st := [.ref ((pl + 10 + 4 * i)), .int (iI (((i : Nat) : Int))), .ref (pl + 2)]) hb ho 77 dX5_init_74 rfl ck_X5_24 (c_X0_init (pl + 10 + 4 * i) fw_70) rfl rfl (by rw [hR0]; exact ⟨Nat.le_of_ble_eq_true rfl, Nat.le_of_ble_eq_true rfl⟩) (Nat.le_of_ble_eq_true rfl) (by rw [hR0]; show 9 + 4 * i + 1 + 3 ≤ 53; omega) (by rw [hR0]; show 63 + 365 * i + 4 + 361 ≤ 4078; omega) (fun w_74 nw_74 qw_74 => ?_)
              obtain ⟨rfl, hcc, ow_74⟩ := qw_74
              have lc : w_74 pl = some (eO 5 [.ref (pl + 1), .ref (pl + 2), .int (iI 0)]) := (ow_74 _ (by omega)).trans lc
              have lo : w_74 (pl + 1) = some (eQ 3 10 hi) := (ow_74 _ (by omega)).trans lo
              have lh : w_74 (pl + 2) = some (eQ 2 11 hc) := (ow_74 _ (by omega)).trans lh
              have hcc0 := hcc.1
              refine r_aast hb 78 dX5_init_77 rfl lh hcc0 rfl (Or.inl ⟨rfl, rfl⟩) i (by omega) (⟨by omega, by omega⟩) (fun w_77 hw_77 => ?_)
              have ow_77 := pset_off hw_77
              have xw_77 : w_77 (pl + 2) = some (eQ 2 11 (va_up hc i (some (pl + 10 + 4 * i)))) := by rw [hw_77]; exact pset_eq _ _ _
              have hcc0 : w_77 (pl + 10 + 4 * i) = some (eO 0 [.ref (pl + 10 + 4 * i + 1), .ref (pl + 10 + 4 * i + 2), .ref (pl + 10 + 4 * i + 3), .int (iI (((0 : Nat) : Int)))]) := (ow_77 _ (by omega)).trans hcc0
              have hcc : chp w_77 (pl + 10 + 4 * i) 0 (fun _ => 0) (fun _ => 0) (fun _ => 0) := hcc.off ow_77 (by omega)
              have lc : w_77 pl = some (eO 5 [.ref (pl + 1), .ref (pl + 2), .int (iI 0)]) := (ow_77 _ (by omega)).trans lc
              have lo : w_77 (pl + 1) = some (eQ 3 10 hi) := (ow_77 _ (by omega)).trans lo
              refine r_iinc [(2, .int (iI (((i : Nat) : Int) + 1))), (1, .ref (pl + 3)), (0, .ref pl)] hb 81 3 0 dX5_init_78 rfl rfl hnL (by decide) (((i : Nat) : Int) + 1) (by omega) rfl ?_
              refine r_goto hb 56 dX5_init_81 (by decide) ?_
              refine r_lv [(2, .int (iI (((i + 1 : Nat)) : Int))), (1, .ref (pl + 3)), (0, .ref pl)] [0, 1, 2] rfl ?_
              refine r_widen (9 + 4 * (i + 1)) (63 + 365 * (i + 1)) (by show 9 + 4 * i + 1 + 3 ≤ _; omega) (by show 63 + 365 * i + 4 + 361 ≤ _; omega) ?_
              rw [show pl + 10 + 4 * i + 4 = pl + 10 + 4 * (i + 1) by omega]
              refine ih_lq (11 - (i + 1)) (by omega) (i + 1) _ _ _ rfl (by omega) lc lo xw_77 ?_ ?_ (((hO.trans (ow_70.mono (by omega) (by omega))).trans (ow_74.mono (by omega) (by omega))).trans (ow_77.mono (by omega) (by omega)))
              · intro j hj
                simp only [va_up]
                by_cases e : j = i
                · rw [if_pos e, e]
                · rw [if_neg e]; exact hhc j (by omega)
              · intro j hj
                by_cases e : j = i
                · subst e; exact hcc
                · exact (((hch j (by omega)).off ow_70 (by omega)).off ow_74 (by omega)).off ow_77 (by omega)
        refine r_widen (9 + 4 * 0) (63 + 365 * 0) (Nat.le_of_ble_eq_true rfl) (Nat.le_of_ble_eq_true rfl) ?_
        refine r_lv [(2, .int (iI (((0 : Nat)) : Int))), (1, .ref (pl + 3)), (0, .ref pl)] [0, 1, 2] rfl ?_
        exact lq _ 0 _ _ _ rfl (Nat.zero_le _) lc lo lh (fun j hj => absurd hj (Nat.not_lt_zero _)) (fun j hj => absurd hj (Nat.not_lt_zero _)) hO
      · refine r_aload_n hb 42 dX5_init_41 rfl 2 rfl ?_
        refine r_get hb ho 45 dX5_init_42 rfl lk_X5_11 pf_X5_0 lc rfl ?_
        refine r_iload_n hb 46 dX5_init_45 rfl 0 rfl ?_
        refine r_aload_n hb 47 dX5_init_46 rfl 1 rfl ?_
        refine r_aast hb 48 dX5_init_47 rfl lo hnb.1 rfl (Or.inr (Or.inl ⟨rfl, rfl⟩)) i (by omega) (⟨by omega, by omega⟩) (fun w_47 hw_47 => ?_)
        have ow_47 := pset_off hw_47
        have xw_47 : w_47 (pl + 1) = some (eQ 3 10 (va_up hi i (some (pl + 3)))) := by rw [hw_47]; exact pset_eq _ _ _
        have lc : w_47 pl = some (eO 5 [.ref (pl + 1), .ref (pl + 2), .int (iI 0)]) := (ow_47 _ (by omega)).trans lc
        have lh : w_47 (pl + 2) = some (eQ 2 11 (fun _ => none)) := (ow_47 _ (by omega)).trans lh
        have hnb : nt w_47 (pl + 3) nt0 := hnb.off ow_47 (by omega)
        refine r_iinc [(2, .int (iI (((i : Nat) : Int) + 1))), (1, .ref (pl + 3)), (0, .ref pl)] hb 51 3 0 dX5_init_48 rfl rfl hnL (by decide) (((i : Nat) : Int) + 1) (by omega) rfl ?_
        refine r_goto hb 32 dX5_init_51 (by decide) ?_
        refine r_lv [(2, .int (iI (((i + 1 : Nat)) : Int))), (1, .ref (pl + 3)), (0, .ref pl)] [0, 1, 2] rfl ?_
        exact ih_lp (10 - (i + 1)) (by omega) (i + 1) _ _ rfl (by omega) lc xw_47 lh hnb (hO.trans (ow_47.mono (by omega) (by omega)))
  refine r_lv [(2, .int (iI (((0 : Nat)) : Int))), (1, .ref (pl + 3)), (0, .ref pl)] [0, 1, 2] rfl ?_
  refine r_widen 9 63 (Nat.le_of_ble_eq_true rfl) (Nat.le_of_ble_eq_true rfl) ?_
  exact lp _ 0 _ _ rfl (Nat.zero_le _) xw_19 fw_7 fw_16 hnb ((((((ow_7.mono (by omega) (by omega)).trans (ow_10.mono (by omega) (by omega))).trans (ow_16.mono (by omega) (by omega))).trans (ow_19.mono (by omega) (by omega))).trans (ow_22.mono (by omega) (by omega))).trans (ow_26.mono (by omega) (by omega)))
