abbrev rm_X9_chosen : Room := { frames := 1, cells := 0, slots := 0, locals := 23 }
set_option maxHeartbeats 4000000 in
set_option maxRecDepth 100000 in
theorem c_X9_chosen (mo : Nat) (rg : Nat → Int) (g : Nat → Int32) (sco smo : Nat → Int) (D : List Int32) (l : List Nt) (nx : Nat) (thr : Int) (c : Nat) (o : Nat → Nat) (i fr : Nat) {w : PW} {n : Nat} (mc : w mo = some (mE mo rg)) (vc : w (mo + 1) = some (eI 483 g)) (xc : w (mo + 9) = some (eI 1210 (fun ii => iI (sco ii)))) (uc : w (mo + 11) = some (eI 1331 (fun ii => iI (smo ii)))) (hD : vdp g D) (hsc : ∀ a p, p < D.length → a < c → sco (121 * a + p) = mSc (elN (lg l (o a)) D thr p)) (hu : ∀ a p, a ≤ c → p ≤ D.length → smo (121 * a + p) = smN l D thr o c (c - a) p) (hic : i < c ∧ c ≤ 10 ∧ fr ≤ D.length) (hoo : ∀ j, j < c → o j < l.length) (hok : pOk (D, l, nx)) (ht : 0 ≤ thr ∧ thr ≤ 108) : CtR yX9_chosen cX9_chosen 6 (some .int) rm_X9_chosen [.ref mo, .int (iI (((i : Nat) : Int))), .int (iI (((fr : Nat) : Int)))] w n (.int (iI ((stZ (stN l D thr o c i fr))))) := by
  have hDl := hD.2.2
  refine Ctr.of rfl (Nat.le_of_ble_eq_true rfl) fun S hS => ?_
  have hb : S.1.1 = cX9_chosen := by rw [hS]; rfl
  have ho : S.1.2.1 = RX9 := by rw [hS]; rfl
  have hnL : S.1.2.2.1 = 6 := by rw [hS]; rfl
  have hR0 : S.2.1 = rm_X9_chosen := by rw [hS]; rfl
  show Wp S 0 [(0, .ref mo), (1, .int (iI (((i : Nat) : Int)))), (2, .int (iI (((fr : Nat) : Int))))] [] w n 0 0
  refine r_iconst hb 1 dX9_chosen_0 rfl ?_
  refine r_istore_n [(3, .int (iI (-1))), (0, .ref mo), (1, .int (iI (((i : Nat) : Int)))), (2, .int (iI (((fr : Nat) : Int))))] hb 2 6 dX9_chosen_1 rfl rfl hnL (by decide) rfl ?_
  refine r_iload_n hb 3 dX9_chosen_2 rfl 3 rfl ?_
  refine r_istore [(4, .int (iI (((fr : Nat) : Int)))), (3, .int (iI (-1))), (0, .ref mo), (1, .int (iI (((i : Nat) : Int)))), (2, .int (iI (((fr : Nat) : Int))))] hb 5 6 dX9_chosen_3 rfl hnL (by decide) rfl ?_
  have lp : ∀ (d : Nat) (q : Nat), D.length - q = d → (fr ≤ q ∧ q ≤ D.length) → Wp S 5 [(4, .int (iI (((q : Nat) : Int)))), (3, .int (iI ((stZ (chS (elN (lg l (o i)) D thr) (smN l D thr o c (c - (i + 1))) (smN l D thr o c (c - i) fr) fr (q - fr)).2)))), (0, .ref mo), (1, .int (iI (((i : Nat) : Int)))), (2, .int (iI (((fr : Nat) : Int))))] [] w n 0 0 := by
    intro d
    induction d using Nat.strongRecOn with
    | _ d ih_lp =>
      intro q hd_lp hq
      have hch := chS_hi (elN (lg l (o i)) D thr) (smN l D thr o c (c - (i + 1))) (smN l D thr o c (c - i) fr) fr (q - fr)
      have hbst : -1 ≤ stZ (chS (elN (lg l (o i)) D thr) (smN l D thr o c (c - (i + 1))) (smN l D thr o c (c - i) fr) fr (q - fr)).2 ∧ stZ (chS (elN (lg l (o i)) D thr) (smN l D thr o c (c - (i + 1))) (smN l D thr o c (c - i) fr) fr (q - fr)).2 ≤ 200 := by
        rcases hch with h2 | ⟨p, h3, h4, h5, h6⟩
        · rw [h2]; decide
        · rw [h5]; unfold stZ; simp only; split <;> omega
      refine r_iload hb 7 dX9_chosen_5 rfl 0 rfl ?_
      refine r_aload_n hb 8 dX9_chosen_7 rfl 2 rfl ?_
      refine r_get hb ho 11 dX9_chosen_8 rfl lk_X9_7 pf_X9_0 mc rfl ?_
      refine r_iconst hb 12 dX9_chosen_11 rfl ?_
      refine r_iald hb 13 dX9_chosen_12 rfl vc 0 (by omega) (⟨by omega, by omega⟩) ?_
      refine r_topz ((((D).length : Nat) : Int)) (hD.1) ?_
      refine r_icmp_ge hb 16 88 dX9_chosen_13 rfl (by decide) (by omega) (by omega) (fun c13 => ?_) (fun c13 => ?_)
      · refine r_iload_n hb 89 dX9_chosen_88 rfl 1 rfl ?_
        refine r_iret hS dX9_chosen_89 rfl rfl (Nat.zero_le _) (Nat.zero_le _) ?_
        rw [show q = D.length by omega]
        exact ⟨_, rfl, rfl, rfl, rfl⟩
      · refine r_aload_n hb 17 dX9_chosen_16 rfl 2 rfl ?_
        refine r_iload_n hb 18 dX9_chosen_17 rfl 3 rfl ?_
        refine r_iload hb 20 dX9_chosen_18 rfl 0 rfl ?_
        have hxi : nOk (lg l (o i)) := (hok.2.2.2.1 (o i) (hoo i (by omega))).1
        have hel := elN_bd hxi D ht.1 (p := q) (by omega)
        have hsb := smN_bd (l := l) (fun j hj => (hok.2.2.2.1 j hj).1) hDl ht.1 (o := o) (c := c) hoo
        have hn1 := hsb (c - (i + 1)) (by omega) q
        have hn2 := hsb (c - i) (by omega) fr
        have hwb : -1 ≤ wv (elN (lg l (o i)) D thr q) (smN l D thr o c (c - (i + 1)) q) ∧ wv (elN (lg l (o i)) D thr q) (smN l D thr o c (c - (i + 1)) q) ≤ 3000 := by unfold wv; split <;> omega
        refine r_callVR (st := []) hb ho 23 dX9_chosen_20 rfl ck_X9_144 (c_X9_worth mo rg sco smo i q ((i : Nat) : Int) (elN (lg l (o i)) D thr q) (smN l D thr o c (c - (i + 1)) q) mc xc uc rfl (hsc i q (by omega) (by omega)) (hu (i + 1) q (by omega) (by omega)) (by omega) (by omega)) rfl rfl (mc) rfl rfl (by rw [hR0]; exact ⟨Nat.le_of_ble_eq_true rfl, Nat.le_of_ble_eq_true rfl⟩) (Nat.le_of_ble_eq_true rfl) ⟨rfl, rfl⟩ (by rw [hR0]; exact Nat.zero_le _) (by rw [hR0]; exact Nat.zero_le _) ?_
        refine r_aload_n hb 24 dX9_chosen_23 rfl 2 rfl ?_
        refine r_get hb ho 27 dX9_chosen_24 rfl lk_X9_45 pf_X9_19 mc rfl ?_
        refine r_bipush 121 hb 29 dX9_chosen_27 rfl rfl ?_
        refine r_iload_n hb 30 dX9_chosen_29 rfl 3 rfl ?_
        refine r_imulZ hb 31 (121 * ((i : Nat) : Int)) dX9_chosen_30 rfl (by omega) ?_
        refine r_iload_n hb 32 dX9_chosen_31 rfl 4 rfl ?_
        refine r_iaddZ hb 33 (121 * ((i : Nat) : Int) + ((fr : Nat) : Int)) dX9_chosen_32 rfl (by omega) ?_
        refine r_ialdZ hb 34 dX9_chosen_33 rfl uc (121 * i + fr) (by omega) (⟨by omega, by omega⟩) ?_
        refine r_topv (.int (iI ((smN l D thr o c (c - i) fr)))) (congrArg (fun z => Value.int (iI z)) (hu i fr (by omega) (by omega))) ?_
        refine r_icmp_ne hb 37 41 dX9_chosen_34 rfl (by decide) (by omega) (by omega) (fun c34 => ?_) (fun c34 => ?_)
        · refine r_iconst hb 42 dX9_chosen_41 rfl ?_
          refine r_istore [(5, .int (iI 0)), (4, .int (iI (((q : Nat) : Int)))), (3, .int (iI ((stZ (chS (elN (lg l (o i)) D thr) (smN l D thr o c (c - (i + 1))) (smN l D thr o c (c - i) fr) fr (q - fr)).2)))), (0, .ref mo), (1, .int (iI (((i : Nat) : Int)))), (2, .int (iI (((fr : Nat) : Int))))] hb 44 6 dX9_chosen_42 rfl hnL (by decide) rfl ?_
          refine r_iload hb 46 dX9_chosen_44 rfl 0 rfl ?_
          refine r_if_eq hb 49 82 dX9_chosen_46 rfl (by decide) (by omega) (fun c46 => ?_) (fun c46 => ?_)
          · refine r_iinc [(4, .int (iI (((q : Nat) : Int) + 1))), (5, .int (iI 0)), (3, .int (iI ((stZ (chS (elN (lg l (o i)) D thr) (smN l D thr o c (c - (i + 1))) (smN l D thr o c (c - i) fr) fr (q - fr)).2)))), (0, .ref mo), (1, .int (iI (((i : Nat) : Int)))), (2, .int (iI (((fr : Nat) : Int))))] hb 85 6 1 dX9_chosen_82 rfl rfl hnL (by decide) (((q : Nat) : Int) + 1) (by omega) rfl ?_
            refine r_goto hb 5 dX9_chosen_85 (by decide) ?_
            have ek : q + 1 - fr = (q - fr) + 1 := by omega
            have eq1 : fr + (q - fr) = q := by omega
            have hno : ¬ ((chS (elN (lg l (o i)) D thr) (smN l D thr o c (c - (i + 1))) (smN l D thr o c (c - i) fr) fr (q - fr)).1 < elN (lg l (o i)) D thr q ∧ elN (lg l (o i)) D thr q + (smN l D thr o c (c - (i + 1))) q = (smN l D thr o c (c - i) fr)) := fun hh => by
              rcases hel with h | h
              · have := hh.1; rcases hch with h2 | ⟨p, h3, h4, h5, h6⟩
                · rw [h2] at this; simp only at this; omega
                · rw [h5] at this; simp only at this; omega
              · apply c34; unfold wv; rw [if_neg (by omega)]; exact hh.2
            have e : chS (elN (lg l (o i)) D thr) (smN l D thr o c (c - (i + 1))) (smN l D thr o c (c - i) fr) fr (q + 1 - fr) = chS (elN (lg l (o i)) D thr) (smN l D thr o c (c - (i + 1))) (smN l D thr o c (c - i) fr) fr (q - fr) := by rw [ek]; simp only [chS]; rw [eq1]; exact if_neg hno
            refine r_lv [(4, .int (iI (((q + 1 : Nat) : Int)))), (3, .int (iI ((stZ (chS (elN (lg l (o i)) D thr) (smN l D thr o c (c - (i + 1))) (smN l D thr o c (c - i) fr) fr (q + 1 - fr)).2)))), (0, .ref mo), (1, .int (iI (((i : Nat) : Int)))), (2, .int (iI (((fr : Nat) : Int))))] [0, 2, 3, 4, 5] (by rw [e]; rfl) ?_
            exact ih_lp (D.length - (q + 1)) (by omega) (q + 1) rfl (by omega)
          · exfalso; omega
        · refine r_iconst hb 38 dX9_chosen_37 rfl ?_
          refine r_goto hb 42 dX9_chosen_38 (by decide) ?_
          refine r_istore [(5, .int (iI 1)), (4, .int (iI (((q : Nat) : Int)))), (3, .int (iI ((stZ (chS (elN (lg l (o i)) D thr) (smN l D thr o c (c - (i + 1))) (smN l D thr o c (c - i) fr) fr (q - fr)).2)))), (0, .ref mo), (1, .int (iI (((i : Nat) : Int)))), (2, .int (iI (((fr : Nat) : Int))))] hb 44 6 dX9_chosen_42 rfl hnL (by decide) rfl ?_
          refine r_iload hb 46 dX9_chosen_44 rfl 0 rfl ?_
          refine r_if_eq hb 49 82 dX9_chosen_46 rfl (by decide) (by omega) (fun c46 => ?_) (fun c46 => ?_)
          · exfalso; omega
          · refine r_iload_n hb 50 dX9_chosen_49 rfl 2 rfl ?_
            refine r_if_lt hb 53 79 dX9_chosen_50 rfl (by decide) (by omega) (fun c50 => ?_) (fun c50 => ?_)
            · refine r_iload hb 81 dX9_chosen_79 rfl 1 rfl ?_
              refine r_istore_n [(3, .int (iI (((q : Nat) : Int)))), (5, .int (iI 1)), (4, .int (iI (((q : Nat) : Int)))), (0, .ref mo), (1, .int (iI (((i : Nat) : Int)))), (2, .int (iI (((fr : Nat) : Int))))] hb 82 6 dX9_chosen_81 rfl rfl hnL (by decide) rfl ?_
              refine r_iinc [(4, .int (iI (((q : Nat) : Int) + 1))), (3, .int (iI (((q : Nat) : Int)))), (5, .int (iI 1)), (0, .ref mo), (1, .int (iI (((i : Nat) : Int)))), (2, .int (iI (((fr : Nat) : Int))))] hb 85 6 2 dX9_chosen_82 rfl rfl hnL (by decide) (((q : Nat) : Int) + 1) (by omega) rfl ?_
              refine r_goto hb 5 dX9_chosen_85 (by decide) ?_
              have ek : q + 1 - fr = (q - fr) + 1 := by omega
              have eq1 : fr + (q - fr) = q := by omega
              have hgd : elN (lg l (o i)) D thr q ≠ -1005 ∧ elN (lg l (o i)) D thr q + (smN l D thr o c (c - (i + 1))) q = (smN l D thr o c (c - i) fr) := by
                unfold wv at c34
                by_cases h : elN (lg l (o i)) D thr q = -1005
                · rw [if_pos h] at c34; omega
                · rw [if_neg h] at c34; exact ⟨h, c34⟩
              have hyes : (chS (elN (lg l (o i)) D thr) (smN l D thr o c (c - (i + 1))) (smN l D thr o c (c - i) fr) fr (q - fr)).1 < elN (lg l (o i)) D thr q ∧ elN (lg l (o i)) D thr q + (smN l D thr o c (c - (i + 1))) q = (smN l D thr o c (c - i) fr) := by
                rcases hch with h2 | ⟨p, h3, h4, h5, h6⟩
                · rw [h2]; exact ⟨by show (-1005 : Int) < _; omega, hgd.2⟩
                · exfalso; rw [h5] at c50; simp only [stZ] at c50; rw [if_neg (by omega)] at c50; omega
              have e : chS (elN (lg l (o i)) D thr) (smN l D thr o c (c - (i + 1))) (smN l D thr o c (c - i) fr) fr (q + 1 - fr) = (elN (lg l (o i)) D thr q, ((q : Nat) : Int)) := by rw [ek]; simp only [chS]; rw [eq1]; exact if_pos hyes
              have ez : ((q : Nat) : Int) = stZ (chS (elN (lg l (o i)) D thr) (smN l D thr o c (c - (i + 1))) (smN l D thr o c (c - i) fr) fr (q + 1 - fr)).2 := by rw [e]; unfold stZ; exact (if_neg (by show ¬ ((q : Nat) : Int) = -1005; omega)).symm
              refine r_lv [(4, .int (iI (((q + 1 : Nat) : Int)))), (3, .int (iI ((stZ (chS (elN (lg l (o i)) D thr) (smN l D thr o c (c - (i + 1))) (smN l D thr o c (c - i) fr) fr (q + 1 - fr)).2)))), (0, .ref mo), (1, .int (iI (((i : Nat) : Int)))), (2, .int (iI (((fr : Nat) : Int))))] [0, 1, 3, 4, 5] (congrArg (fun zz : Int => ([(4, .int (iI (((q + 1 : Nat) : Int)))), (3, .int (iI zz)), (0, .ref mo), (1, .int (iI (((i : Nat) : Int)))), (2, .int (iI (((fr : Nat) : Int))))] : List (Nat × Value))) ez) ?_
              exact ih_lp (D.length - (q + 1)) (by omega) (q + 1) rfl (by omega)
            · obtain ⟨p, hp3, hp4, hp5, hp6⟩ : ∃ p, fr ≤ p ∧ p < fr + (q - fr) ∧ chS (elN (lg l (o i)) D thr) (smN l D thr o c (c - (i + 1))) (smN l D thr o c (c - i) fr) fr (q - fr) = ((elN (lg l (o i)) D thr) p, ((p : Nat) : Int)) ∧ -1005 < (elN (lg l (o i)) D thr) p := by
                rcases hch with h2 | h2
                · exfalso; rw [h2] at c50; revert c50; decide
                · exact h2
              have hbp : stZ (chS (elN (lg l (o i)) D thr) (smN l D thr o c (c - (i + 1))) (smN l D thr o c (c - i) fr) fr (q - fr)).2 = ((p : Nat) : Int) := by rw [hp5]; unfold stZ; exact if_neg (by simp only; omega)
              have help := elN_bd hxi D ht.1 (p := p) (by omega)
              have hgq : elN (lg l (o i)) D thr q ≠ -1005 := fun h => by unfold wv at c34; rw [if_pos h] at c34; omega
              refine r_aload_n hb 54 dX9_chosen_53 rfl 3 rfl ?_
              refine r_get hb ho 57 dX9_chosen_54 rfl lk_X9_39 pf_X9_17 mc rfl ?_
              refine r_bipush 121 hb 59 dX9_chosen_57 rfl rfl ?_
              refine r_iload_n hb 60 dX9_chosen_59 rfl 4 rfl ?_
              refine r_imulZ hb 61 (121 * ((i : Nat) : Int)) dX9_chosen_60 rfl (by omega) ?_
              refine r_iload hb 63 dX9_chosen_61 rfl 1 rfl ?_
              refine r_iaddZ hb 64 (121 * ((i : Nat) : Int) + ((q : Nat) : Int)) dX9_chosen_63 rfl (by omega) ?_
              refine r_ialdZ hb 65 dX9_chosen_64 rfl xc (121 * i + q) (by omega) (⟨by omega, by omega⟩) ?_
              refine r_topv (.int (iI ((elN (lg l (o i)) D thr q)))) (congrArg (fun z => Value.int (iI z)) ((hsc i q (by omega) (by omega)).trans (by unfold mSc; exact if_neg hgq))) ?_
              refine r_aload_n hb 66 dX9_chosen_65 rfl 3 rfl ?_
              refine r_get hb ho 69 dX9_chosen_66 rfl lk_X9_39 pf_X9_17 mc rfl ?_
              refine r_bipush 121 hb 71 dX9_chosen_69 rfl rfl ?_
              refine r_iload_n hb 72 dX9_chosen_71 rfl 4 rfl ?_
              refine r_imulZ hb 73 (121 * ((i : Nat) : Int)) dX9_chosen_72 rfl (by omega) ?_
              refine r_iload_n hb 74 dX9_chosen_73 rfl 2 rfl ?_
              refine r_iaddZ hb 75 (121 * ((i : Nat) : Int) + (stZ (chS (elN (lg l (o i)) D thr) (smN l D thr o c (c - (i + 1))) (smN l D thr o c (c - i) fr) fr (q - fr)).2)) dX9_chosen_74 rfl (by omega) ?_
              refine r_ialdZ hb 76 dX9_chosen_75 rfl xc (121 * i + p) (by omega) (⟨by omega, by omega⟩) ?_
              refine r_topv (.int (iI ((elN (lg l (o i)) D thr p)))) (congrArg (fun z => Value.int (iI z)) ((hsc i p (by omega) (by omega)).trans (by unfold mSc; exact if_neg (by omega)))) ?_
              refine r_icmp_le hb 79 82 dX9_chosen_76 rfl (by decide) (by omega) (by omega) (fun c76 => ?_) (fun c76 => ?_)
              · refine r_iinc [(4, .int (iI (((q : Nat) : Int) + 1))), (5, .int (iI 1)), (3, .int (iI ((stZ (chS (elN (lg l (o i)) D thr) (smN l D thr o c (c - (i + 1))) (smN l D thr o c (c - i) fr) fr (q - fr)).2)))), (0, .ref mo), (1, .int (iI (((i : Nat) : Int)))), (2, .int (iI (((fr : Nat) : Int))))] hb 85 6 1 dX9_chosen_82 rfl rfl hnL (by decide) (((q : Nat) : Int) + 1) (by omega) rfl ?_
                refine r_goto hb 5 dX9_chosen_85 (by decide) ?_
                have ek : q + 1 - fr = (q - fr) + 1 := by omega
                have eq1 : fr + (q - fr) = q := by omega
                have hgd : elN (lg l (o i)) D thr q ≠ -1005 ∧ elN (lg l (o i)) D thr q + (smN l D thr o c (c - (i + 1))) q = (smN l D thr o c (c - i) fr) := by
                  unfold wv at c34
                  by_cases h : elN (lg l (o i)) D thr q = -1005
                  · rw [if_pos h] at c34; omega
                  · rw [if_neg h] at c34; exact ⟨h, c34⟩
                have hno : ¬ ((chS (elN (lg l (o i)) D thr) (smN l D thr o c (c - (i + 1))) (smN l D thr o c (c - i) fr) fr (q - fr)).1 < elN (lg l (o i)) D thr q ∧ elN (lg l (o i)) D thr q + (smN l D thr o c (c - (i + 1))) q = (smN l D thr o c (c - i) fr)) := fun hh => by have := hh.1; rw [hp5] at this; simp only at this; omega
                have e : chS (elN (lg l (o i)) D thr) (smN l D thr o c (c - (i + 1))) (smN l D thr o c (c - i) fr) fr (q + 1 - fr) = chS (elN (lg l (o i)) D thr) (smN l D thr o c (c - (i + 1))) (smN l D thr o c (c - i) fr) fr (q - fr) := by rw [ek]; simp only [chS]; rw [eq1]; exact if_neg hno
                refine r_lv [(4, .int (iI (((q + 1 : Nat) : Int)))), (3, .int (iI ((stZ (chS (elN (lg l (o i)) D thr) (smN l D thr o c (c - (i + 1))) (smN l D thr o c (c - i) fr) fr (q + 1 - fr)).2)))), (0, .ref mo), (1, .int (iI (((i : Nat) : Int)))), (2, .int (iI (((fr : Nat) : Int))))] [0, 2, 3, 4, 5] (by rw [e]; rfl) ?_
                exact ih_lp (D.length - (q + 1)) (by omega) (q + 1) rfl (by omega)
              · refine r_iload hb 81 dX9_chosen_79 rfl 1 rfl ?_
                refine r_istore_n [(3, .int (iI (((q : Nat) : Int)))), (5, .int (iI 1)), (4, .int (iI (((q : Nat) : Int)))), (0, .ref mo), (1, .int (iI (((i : Nat) : Int)))), (2, .int (iI (((fr : Nat) : Int))))] hb 82 6 dX9_chosen_81 rfl rfl hnL (by decide) rfl ?_
                refine r_iinc [(4, .int (iI (((q : Nat) : Int) + 1))), (3, .int (iI (((q : Nat) : Int)))), (5, .int (iI 1)), (0, .ref mo), (1, .int (iI (((i : Nat) : Int)))), (2, .int (iI (((fr : Nat) : Int))))] hb 85 6 2 dX9_chosen_82 rfl rfl hnL (by decide) (((q : Nat) : Int) + 1) (by omega) rfl ?_
                refine r_goto hb 5 dX9_chosen_85 (by decide) ?_
                have ek : q + 1 - fr = (q - fr) + 1 := by omega
                have eq1 : fr + (q - fr) = q := by omega
                have hgd : elN (lg l (o i)) D thr q ≠ -1005 ∧ elN (lg l (o i)) D thr q + (smN l D thr o c (c - (i + 1))) q = (smN l D thr o c (c - i) fr) := by
                  unfold wv at c34
                  by_cases h : elN (lg l (o i)) D thr q = -1005
                  · rw [if_pos h] at c34; omega
                  · rw [if_neg h] at c34; exact ⟨h, c34⟩
                have hyes : (chS (elN (lg l (o i)) D thr) (smN l D thr o c (c - (i + 1))) (smN l D thr o c (c - i) fr) fr (q - fr)).1 < elN (lg l (o i)) D thr q ∧ elN (lg l (o i)) D thr q + (smN l D thr o c (c - (i + 1))) q = (smN l D thr o c (c - i) fr) := by rw [hp5]; exact ⟨by show (elN (lg l (o i)) D thr) p < _; omega, hgd.2⟩
                have e : chS (elN (lg l (o i)) D thr) (smN l D thr o c (c - (i + 1))) (smN l D thr o c (c - i) fr) fr (q + 1 - fr) = (elN (lg l (o i)) D thr q, ((q : Nat) : Int)) := by rw [ek]; simp only [chS]; rw [eq1]; exact if_pos hyes
                have ez : ((q : Nat) : Int) = stZ (chS (elN (lg l (o i)) D thr) (smN l D thr o c (c - (i + 1))) (smN l D thr o c (c - i) fr) fr (q + 1 - fr)).2 := by rw [e]; unfold stZ; exact (if_neg (by show ¬ ((q : Nat) : Int) = -1005; omega)).symm
                refine r_lv [(4, .int (iI (((q + 1 : Nat) : Int)))), (3, .int (iI ((stZ (chS (elN (lg l (o i)) D thr) (smN l D thr o c (c - (i + 1))) (smN l D thr o c (c - i) fr) fr (q + 1 - fr)).2)))), (0, .ref mo), (1, .int (iI (((i : Nat) : Int)))), (2, .int (iI (((fr : Nat) : Int))))] [0, 1, 3, 4, 5] (congrArg (fun zz : Int => ([(4, .int (iI (((q + 1 : Nat) : Int)))), (3, .int (iI zz)), (0, .ref mo), (1, .int (iI (((i : Nat) : Int)))), (2, .int (iI (((fr : Nat) : Int))))] : List (Nat × Value))) ez) ?_
                exact ih_lp (D.length - (q + 1)) (by omega) (q + 1) rfl (by omega)
  refine r_lv [(4, .int (iI (((fr : Nat) : Int)))), (3, .int (iI ((stZ (chS (elN (lg l (o i)) D thr) (smN l D thr o c (c - (i + 1))) (smN l D thr o c (c - i) fr) fr (fr - fr)).2)))), (0, .ref mo), (1, .int (iI (((i : Nat) : Int)))), (2, .int (iI (((fr : Nat) : Int))))] [0, 1, 2, 3, 4] (by rw [Nat.sub_self]; rfl) ?_
  exact lp _ fr rfl (by omega)

abbrev rm_X9_attachAll : Room := { frames := 5, cells := 0, slots := 0, locals := 119 }
set_option maxHeartbeats 4000000 in
set_option maxRecDepth 100000 in
theorem c_X9_attachAll (mo : Nat) (B D : List Int32) (l : List Nt) (nx : Nat) (hs : List Pg) (s0 s1 : Option (Pg × Int)) (thr : Int)  {w : PW} {n : Nat} (hM : moE w mo B D l nx hs s0 s1 thr) (hok : pOk (D, l, nx)) (ht : 0 ≤ thr ∧ thr ≤ 108) : Ct1 yX9_attachAll cX9_attachAll 5 (some .int) rm_X9_attachAll [.ref mo] w n (fun v w1 n1 => v = .int (oAll B D l nx hs s0 s1 thr ).1 ∧ n = n1 ∧ mo_ w1 mo (oAll B D l nx hs s0 s1 thr ).2 ∧ off w w1 mo (mo + 12)) := by
  obtain ⟨rg, g, sp, pa, kp, ik, bg, ln, od, sco, leo, smo, mc, vc, sc, pc, kc, ic, bc, lc, oc, xc, ec, uc, hV, h3, hH, h6, h8, hB, hS0, hS1⟩ := id hM
  have hD : vdp g D := hV.1
  have hP : vnp g l nx := hV.2
  have hDl := hD.2.2
  have hPl := hP.2.2.1
  have hnx := hP.2.2.2.1
  have hBl := hB.1
  have hHl := hH.1
  refine Ctr.of rfl (Nat.le_of_ble_eq_true rfl) fun S hS => ?_
  have hb : S.1.1 = cX9_attachAll := by rw [hS]; rfl
  have ho : S.1.2.1 = RX9 := by rw [hS]; rfl
  have hnL : S.1.2.2.1 = 5 := by rw [hS]; rfl
  have hR0 : S.2.1 = rm_X9_attachAll := by rw [hS]; rfl
  show Wp S 0 [(0, .ref mo)] [] w n 0 0
  refine r_aload_n hb 1 dX9_attachAll_0 rfl 0 rfl ?_
  refine r_callV0 (st := []) hb ho 4 dX9_attachAll_1 rfl ck_X9_147 (c_X9_findOrder mo rg g od l nx mc vc oc hP) rfl rfl (mc) rfl rfl (by rw [hR0]; exact ⟨Nat.le_of_ble_eq_true rfl, Nat.le_of_ble_eq_true rfl⟩) (Nat.le_of_ble_eq_true rfl) ⟨rfl, rfl⟩ (by rw [hR0]; exact Nat.zero_le _) (by rw [hR0]; exact Nat.zero_le _) (fun w_1 nw_1 qw_1 => ?_)
  obtain ⟨rfl, ⟨rg5, od1, mc, hF5, h16, oc, hod⟩, ow_1⟩ := qw_1
  have h3 := (hF5 3 (by omega)).trans h3
  have h6 := (hF5 6 (by omega)).trans h6
  have h8 := (hF5 8 (by omega)).trans h8
  have vc : w_1 (mo + 1) = some (eI 483 g) := (ow_1 _ (by omega) (by omega)).trans vc
  have sc : w_1 (mo + 2) = some (eI 483 sp) := (ow_1 _ (by omega) (by omega)).trans sc
  have pc : w_1 (mo + 3) = some (eI 2898 pa) := (ow_1 _ (by omega) (by omega)).trans pc
  have kc : w_1 (mo + 4) = some (eI 968 kp) := (ow_1 _ (by omega) (by omega)).trans kc
  have ic : w_1 (mo + 5) = some (eZ 2 ik) := (ow_1 _ (by omega) (by omega)).trans ic
  have bc : w_1 (mo + 6) = some (eI 40 bg) := (ow_1 _ (by omega) (by omega)).trans bc
  have lc : w_1 (mo + 7) = some (eI 17 (fun ii => iI ((ln ii : Nat) : Int))) := (ow_1 _ (by omega) (by omega)).trans lc
  have xc : w_1 (mo + 9) = some (eI 1210 (fun ii => iI (sco ii))) := (ow_1 _ (by omega) (by omega)).trans xc
  have ec : w_1 (mo + 10) = some (eI 1210 (fun ii => iI (leo ii))) := (ow_1 _ (by omega) (by omega)).trans ec
  have uc : w_1 (mo + 11) = some (eI 1331 (fun ii => iI (smo ii))) := (ow_1 _ (by omega) (by omega)).trans uc
  refine r_aload_n hb 5 dX9_attachAll_4 rfl 0 rfl ?_
  have hgl := gaN_le l l.length
  have hgo : ∀ j, j < (gaN l l.length).2 → (gaN l l.length).1 j < l.length := gaN_lt l l.length
  refine r_callV0 (st := []) hb ho 8 dX9_attachAll_5 rfl ck_X9_150 (c_X9_findScores mo rg5 g ln od1 sco leo D l nx thr (gaN l l.length).2 (gaN l l.length).1 mc vc lc oc xc ec hD hP hok ht h16 h6 (by omega) (fun j hj => ⟨hod j hj, hgo j hj⟩)) rfl rfl (mc) rfl rfl (by rw [hR0]; exact ⟨Nat.le_of_ble_eq_true rfl, Nat.le_of_ble_eq_true rfl⟩) (Nat.le_of_ble_eq_true rfl) ⟨rfl, rfl⟩ (by rw [hR0]; exact Nat.zero_le _) (by rw [hR0]; exact Nat.zero_le _) (fun w_5 nw_5 qw_5 => ?_)
  obtain ⟨rfl, ⟨rg6, ln6, si, ei, mc, hF6, lc, oc, xc, ec, hq⟩, ow_5⟩ := qw_5
  have h3 := (hF6 3 (by omega)).trans h3
  have h6 := (hF6 6 (by omega)).trans h6
  have h8 := (hF6 8 (by omega)).trans h8
  have h16 := (hF6 16 (by omega)).trans h16
  have vc : w_5 (mo + 1) = some (eI 483 g) := (ow_5 _ (by omega) (by omega)).trans vc
  have sc : w_5 (mo + 2) = some (eI 483 sp) := (ow_5 _ (by omega) (by omega)).trans sc
  have pc : w_5 (mo + 3) = some (eI 2898 pa) := (ow_5 _ (by omega) (by omega)).trans pc
  have kc : w_5 (mo + 4) = some (eI 968 kp) := (ow_5 _ (by omega) (by omega)).trans kc
  have ic : w_5 (mo + 5) = some (eZ 2 ik) := (ow_5 _ (by omega) (by omega)).trans ic
  have bc : w_5 (mo + 6) = some (eI 40 bg) := (ow_5 _ (by omega) (by omega)).trans bc
  have uc : w_5 (mo + 11) = some (eI 1331 (fun ii => iI (smo ii))) := (ow_5 _ (by omega) (by omega)).trans uc
  refine r_aload_n hb 9 dX9_attachAll_8 rfl 0 rfl ?_
  refine r_callV0 (st := []) hb ho 12 dX9_attachAll_9 rfl ck_X9_153 (c_X9_findSums mo rg6 g si smo D l nx thr (gaN l l.length).2 (gaN l l.length).1 mc vc xc uc hD (fun a p h1 h2 => (hq a p h1 h2).1) h16 (by omega) hgo hok ht) rfl rfl (mc) rfl rfl (by rw [hR0]; exact ⟨Nat.le_of_ble_eq_true rfl, Nat.le_of_ble_eq_true rfl⟩) (Nat.le_of_ble_eq_true rfl) ⟨rfl, rfl⟩ (by rw [hR0]; exact Nat.zero_le _) (by rw [hR0]; exact Nat.zero_le _) (fun w_9 nw_9 qw_9 => ?_)
  obtain ⟨rfl, ⟨ui, uc, hu⟩, ow_9⟩ := qw_9
  have mc : w_9 mo = some (eO 9 [.ref (mo + 1), .ref (mo + 2), .ref (mo + 3), .int (iI ((rg6 3))), .ref (mo + 4), .ref (mo + 5), .int (iI ((rg6 6))), .ref (mo + 6), .int (iI ((rg6 8))), .ref (mo + 7), .int (iI ((rg6 10))), .int (iI ((rg6 11))), .int (iI ((rg6 12))), .int (iI ((rg6 13))), .int (iI ((rg6 14))), .ref (mo + 8), .int (iI ((rg6 16))), .ref (mo + 9), .ref (mo + 10), .ref (mo + 11)]) := (ow_9 _ (by omega)).trans mc
  have oc : w_9 (mo + 8) = some (eI 10 (fun ii => iI ((od1 ii : Nat) : Int))) := (ow_9 _ (by omega)).trans oc
  have lc : w_9 (mo + 7) = some (eI 17 (fun ii => iI ((ln6 ii : Nat) : Int))) := (ow_9 _ (by omega)).trans lc
  have xc : w_9 (mo + 9) = some (eI 1210 (fun ii => iI (si ii))) := (ow_9 _ (by omega)).trans xc
  have ec : w_9 (mo + 10) = some (eI 1210 (fun ii => iI (ei ii))) := (ow_9 _ (by omega)).trans ec
  have vc : w_9 (mo + 1) = some (eI 483 g) := (ow_9 _ (by omega)).trans vc
  have sc : w_9 (mo + 2) = some (eI 483 sp) := (ow_9 _ (by omega)).trans sc
  have pc : w_9 (mo + 3) = some (eI 2898 pa) := (ow_9 _ (by omega)).trans pc
  have kc : w_9 (mo + 4) = some (eI 968 kp) := (ow_9 _ (by omega)).trans kc
  have ic : w_9 (mo + 5) = some (eZ 2 ik) := (ow_9 _ (by omega)).trans ic
  have bc : w_9 (mo + 6) = some (eI 40 bg) := (ow_9 _ (by omega)).trans bc
  refine r_aload_n hb 13 dX9_attachAll_12 rfl 0 rfl ?_
  refine r_callV0 (st := []) hb ho 16 dX9_attachAll_13 rfl ck_X9_66 (c_X9_begins mo rg6 g sp mc vc sc) rfl rfl (mc) rfl rfl (by rw [hR0]; exact ⟨Nat.le_of_ble_eq_true rfl, Nat.le_of_ble_eq_true rfl⟩) (Nat.le_of_ble_eq_true rfl) ⟨rfl, rfl⟩ (by rw [hR0]; exact Nat.zero_le _) (by rw [hR0]; exact Nat.zero_le _) (fun w_13 nw_13 qw_13 => ?_)
  obtain ⟨rfl, ⟨sp1, sc, spi⟩, ow_13⟩ := qw_13
  have hsp : vpo sp1 0 (D, l, nx) := vpg_o (hV.congr (fun i hi => spi i hi))
  have uc : w_13 (mo + 11) = some (eI 1331 (fun ii => iI (ui ii))) := (ow_13 _ (by omega)).trans uc
  have mc : w_13 mo = some (eO 9 [.ref (mo + 1), .ref (mo + 2), .ref (mo + 3), .int (iI ((rg6 3))), .ref (mo + 4), .ref (mo + 5), .int (iI ((rg6 6))), .ref (mo + 6), .int (iI ((rg6 8))), .ref (mo + 7), .int (iI ((rg6 10))), .int (iI ((rg6 11))), .int (iI ((rg6 12))), .int (iI ((rg6 13))), .int (iI ((rg6 14))), .ref (mo + 8), .int (iI ((rg6 16))), .ref (mo + 9), .ref (mo + 10), .ref (mo + 11)]) := (ow_13 _ (by omega)).trans mc
  have oc : w_13 (mo + 8) = some (eI 10 (fun ii => iI ((od1 ii : Nat) : Int))) := (ow_13 _ (by omega)).trans oc
  have lc : w_13 (mo + 7) = some (eI 17 (fun ii => iI ((ln6 ii : Nat) : Int))) := (ow_13 _ (by omega)).trans lc
  have xc : w_13 (mo + 9) = some (eI 1210 (fun ii => iI (si ii))) := (ow_13 _ (by omega)).trans xc
  have ec : w_13 (mo + 10) = some (eI 1210 (fun ii => iI (ei ii))) := (ow_13 _ (by omega)).trans ec
  have vc : w_13 (mo + 1) = some (eI 483 g) := (ow_13 _ (by omega)).trans vc
  have pc : w_13 (mo + 3) = some (eI 2898 pa) := (ow_13 _ (by omega)).trans pc
  have kc : w_13 (mo + 4) = some (eI 968 kp) := (ow_13 _ (by omega)).trans kc
  have ic : w_13 (mo + 5) = some (eZ 2 ik) := (ow_13 _ (by omega)).trans ic
  have bc : w_13 (mo + 6) = some (eI 40 bg) := (ow_13 _ (by omega)).trans bc
  refine r_iconst hb 17 dX9_attachAll_16 rfl ?_
  refine r_istore_n [(1, .int (iI 0)), (0, .ref mo)] hb 18 5 dX9_attachAll_17 rfl rfl hnL (by decide) rfl ?_
  refine r_iconst hb 19 dX9_attachAll_18 rfl ?_
  refine r_istore_n [(2, .int (iI 0)), (1, .int (iI 0)), (0, .ref mo)] hb 20 5 dX9_attachAll_19 rfl rfl hnL (by decide) rfl ?_
  refine r_iconst hb 21 dX9_attachAll_20 rfl ?_
  refine r_istore_n [(3, .int (iI 0)), (2, .int (iI 0)), (1, .int (iI 0)), (0, .ref mo)] hb 22 5 dX9_attachAll_21 rfl rfl hnL (by decide) rfl ?_
  have lp : ∀ (d : Nat) (i : Nat) (wi : PW) (gi : Nat → Int32), (gaN l l.length).2 - i = d → (i ≤ (gaN l l.length).2) → (wi mo = some (eO 9 [.ref (mo + 1), .ref (mo + 2), .ref (mo + 3), .int (iI ((rg6 3))), .ref (mo + 4), .ref (mo + 5), .int (iI ((rg6 6))), .ref (mo + 6), .int (iI ((rg6 8))), .ref (mo + 7), .int (iI ((rg6 10))), .int (iI ((rg6 11))), .int (iI ((rg6 12))), .int (iI ((rg6 13))), .int (iI ((rg6 14))), .ref (mo + 8), .int (iI ((rg6 16))), .ref (mo + 9), .ref (mo + 10), .ref (mo + 11)])) → (wi (mo + 1) = some (eI 483 gi)) → (wi (mo + 2) = some (eI 483 sp1)) → (wi (mo + 3) = some (eI 2898 pa)) → (wi (mo + 4) = some (eI 968 kp)) → (wi (mo + 5) = some (eZ 2 ik)) → (wi (mo + 6) = some (eI 40 bg)) → (wi (mo + 7) = some (eI 17 (fun ii => iI ((ln6 ii : Nat) : Int)))) → (wi (mo + 8) = some (eI 10 (fun ii => iI ((od1 ii : Nat) : Int)))) → (wi (mo + 9) = some (eI 1210 (fun ii => iI (si ii)))) → (wi (mo + 10) = some (eI 1210 (fun ii => iI (ei ii)))) → (wi (mo + 11) = some (eI 1331 (fun ii => iI (ui ii)))) → (vdp gi D) → (vnp gi (coN l D thr (gaN l l.length).1 (gaN l l.length).2 i).1 nx) → (off w wi mo (mo + 12)) → ((coN l D thr (gaN l l.length).1 (gaN l l.length).2 i).2.1 ≤ D.length) → Wp S 22 [(3, .int (iI (((i : Nat) : Int)))), (2, .int (iI ((((coN l D thr (gaN l l.length).1 (gaN l l.length).2 i).2.1 : Nat) : Int)))), (1, .int (iI ((((coN l D thr (gaN l l.length).1 (gaN l l.length).2 i).2.2 : Nat) : Int)))), (0, .ref mo)] [] wi n 0 0 := by
    intro d
    induction d using Nat.strongRecOn with
    | _ d ih_lp =>
      intro i wi gi hd_lp hi mc vc sc pc kc ic bc lc oc xc ec uc hDi hPi hO hfr
      have hcn := coN_cnt l D thr (gaN l l.length).1 (gaN l l.length).2 i
      have hst := stN_cases l D thr (gaN l l.length).1 (gaN l l.length).2 i (coN l D thr (gaN l l.length).1 (gaN l l.length).2 i).2.1
      have hsb : -1 ≤ stZ (stN l D thr (gaN l l.length).1 (gaN l l.length).2 i (coN l D thr (gaN l l.length).1 (gaN l l.length).2 i).2.1) ∧ stZ (stN l D thr (gaN l l.length).1 (gaN l l.length).2 i (coN l D thr (gaN l l.length).1 (gaN l l.length).2 i).2.1) ≤ 200 := by
        rcases hst with h | ⟨s, h, h1, h2, h3⟩
        · rw [h]; decide
        · rw [h]; unfold stZ; split <;> omega
      refine r_iload_n hb 23 dX9_attachAll_22 rfl 0 rfl ?_
      refine r_aload_n hb 24 dX9_attachAll_23 rfl 3 rfl ?_
      refine r_get hb ho 27 dX9_attachAll_24 rfl lk_X9_141 pf_X9_16 mc rfl ?_
      refine r_topv (.int (iI ((((gaN l l.length).2 : Nat) : Int)))) (congrArg (fun z => Value.int (iI z)) h16) ?_
      refine r_icmp_ge hb 30 79 dX9_attachAll_27 rfl (by decide) (by omega) (by omega) (fun c27 => ?_) (fun c27 => ?_)
      · refine r_aload_n hb 80 dX9_attachAll_79 rfl 3 rfl ?_
        refine r_get hb ho 83 dX9_attachAll_80 rfl lk_X9_141 pf_X9_16 mc rfl ?_
        refine r_topv (.int (iI ((((gaN l l.length).2 : Nat) : Int)))) (congrArg (fun z => Value.int (iI z)) h16) ?_
        refine r_if_ne hb 86 92 dX9_attachAll_83 rfl (by decide) (by omega) (fun c83 => ?_) (fun c83 => ?_)
        · refine r_aload_n hb 93 dX9_attachAll_92 rfl 3 rfl ?_
          refine r_iload_n hb 94 dX9_attachAll_93 rfl 2 rfl ?_
          refine r_callV1 (st := []) hb ho 97 dX9_attachAll_94 rfl ck_X9_72 (c_X9_made mo rg6 sp1 pa hs (D, l, nx) (iI ((((coN l D thr (gaN l l.length).1 (gaN l l.length).2 i).2.2 : Nat) : Int))) mc sc pc h3 hH hsp) rfl rfl (mc) rfl rfl (by rw [hR0]; exact ⟨Nat.le_of_ble_eq_true rfl, Nat.le_of_ble_eq_true rfl⟩) (Nat.le_of_ble_eq_true rfl) ⟨rfl, rfl⟩ (by rw [hR0]; exact Nat.zero_le _) (by rw [hR0]; exact Nat.zero_le _) (fun vw_94 w_94 nw_94 qw_94 => ?_)
          obtain ⟨rfl, rfl, ⟨rg3, pa1, mc, hF3, h3, pc, hH⟩, ow_94⟩ := qw_94
          have h6 := (hF3 6 (by decide)).trans h6
          have h8 := (hF3 8 (by decide)).trans h8
          have vc : w_94 (mo + 1) = some (eI 483 gi) := (ow_94 _ (by omega) (by omega)).trans vc
          have sc : w_94 (mo + 2) = some (eI 483 sp1) := (ow_94 _ (by omega) (by omega)).trans sc
          have kc : w_94 (mo + 4) = some (eI 968 kp) := (ow_94 _ (by omega) (by omega)).trans kc
          have ic : w_94 (mo + 5) = some (eZ 2 ik) := (ow_94 _ (by omega) (by omega)).trans ic
          have bc : w_94 (mo + 6) = some (eI 40 bg) := (ow_94 _ (by omega) (by omega)).trans bc
          have lc : w_94 (mo + 7) = some (eI 17 (fun ii => iI ((ln6 ii : Nat) : Int))) := (ow_94 _ (by omega) (by omega)).trans lc
          have oc : w_94 (mo + 8) = some (eI 10 (fun ii => iI ((od1 ii : Nat) : Int))) := (ow_94 _ (by omega) (by omega)).trans oc
          have xc : w_94 (mo + 9) = some (eI 1210 (fun ii => iI (si ii))) := (ow_94 _ (by omega) (by omega)).trans xc
          have ec : w_94 (mo + 10) = some (eI 1210 (fun ii => iI (ei ii))) := (ow_94 _ (by omega) (by omega)).trans ec
          have uc : w_94 (mo + 11) = some (eI 1331 (fun ii => iI (ui ii))) := (ow_94 _ (by omega) (by omega)).trans uc
          refine r_iret hS dX9_attachAll_97 rfl rfl (Nat.zero_le _) (Nat.zero_le _) ?_
          have eic : i = (gaN l l.length).2 := by omega
          rw [eic] at hPi ⊢
          have hV1 : vpg gi (D, (coN l D thr (gaN l l.length).1 (gaN l l.length).2 (gaN l l.length).2).1, nx) := ⟨hDi, hPi⟩
          have e : oAll B D l nx hs s0 s1 thr  = (iI (((coN l D thr (gaN l l.length).1 (gaN l l.length).2 (gaN l l.length).2).2.2 : Nat) : Int), stP B D l nx hs s0 s1 thr (D, (coN l D thr (gaN l l.length).1 (gaN l l.length).2 (gaN l l.length).2).1, nx)) := by unfold oAll; rw [if_neg (by omega)]
          rw [e]
          exact ⟨_, rfl, rfl, rfl, ⟨rg3, gi, sp1, pa1, kp, ik, bg, ln6, od1, si, ei, ui, mc, vc, sc, pc, kc, ic, bc, lc, oc, xc, ec, uc, hV1, h3, hH, h6, h8, hB, hS0, hS1⟩, (hO.trans (ow_94.cov (by omega) (by omega) (by omega) (by omega)))⟩
        · refine r_sipush (-1005) hb 89 dX9_attachAll_86 rfl rfl ?_
          refine r_goto hb 97 dX9_attachAll_89 (by decide) ?_
          refine r_iret hS dX9_attachAll_97 rfl rfl (Nat.zero_le _) (Nat.zero_le _) ?_
          have eic : i = (gaN l l.length).2 := by omega
          have hV1 : vpg gi (D, l, nx) := ⟨hDi, by have h := hPi; rw [show i = 0 by omega] at h; exact h⟩
          have e : oAll B D l nx hs s0 s1 thr  = (iI (-1005), (B, (D, l, nx), hs, s0, s1, thr)) := by unfold oAll; rw [if_pos (by omega)]
          rw [e]
          exact ⟨_, rfl, rfl, rfl, ⟨rg6, gi, sp1, pa, kp, ik, bg, ln6, od1, si, ei, ui, mc, vc, sc, pc, kc, ic, bc, lc, oc, xc, ec, uc, hV1, h3, hH, h6, h8, hB, hS0, hS1⟩, hO⟩
      · refine r_aload_n hb 31 dX9_attachAll_30 rfl 3 rfl ?_
        refine r_iload_n hb 32 dX9_attachAll_31 rfl 0 rfl ?_
        refine r_iload_n hb 33 dX9_attachAll_32 rfl 1 rfl ?_
        refine r_callVR (st := []) hb ho 36 dX9_attachAll_33 rfl ck_X9_156 (c_X9_chosen mo rg6 gi si ui D l nx thr (gaN l l.length).2 (gaN l l.length).1 i (coN l D thr (gaN l l.length).1 (gaN l l.length).2 i).2.1 mc vc xc uc hDi (fun a p h1 h2 => (hq a p h1 h2).1) hu (by omega) hgo hok ht) rfl rfl (mc) rfl rfl (by rw [hR0]; exact ⟨Nat.le_of_ble_eq_true rfl, Nat.le_of_ble_eq_true rfl⟩) (Nat.le_of_ble_eq_true rfl) ⟨rfl, rfl⟩ (by rw [hR0]; exact Nat.zero_le _) (by rw [hR0]; exact Nat.zero_le _) ?_
        refine r_istore [(4, .int (iI ((stZ (stN l D thr (gaN l l.length).1 (gaN l l.length).2 i (coN l D thr (gaN l l.length).1 (gaN l l.length).2 i).2.1))))), (3, .int (iI (((i : Nat) : Int)))), (2, .int (iI ((((coN l D thr (gaN l l.length).1 (gaN l l.length).2 i).2.1 : Nat) : Int)))), (1, .int (iI ((((coN l D thr (gaN l l.length).1 (gaN l l.length).2 i).2.2 : Nat) : Int)))), (0, .ref mo)] hb 38 5 dX9_attachAll_36 rfl hnL (by decide) rfl ?_
        refine r_iload hb 40 dX9_attachAll_38 rfl 0 rfl ?_
        refine r_if_lt hb 43 73 dX9_attachAll_40 rfl (by decide) (by omega) (fun c40 => ?_) (fun c40 => ?_)
        · refine r_iinc [(3, .int (iI (((i : Nat) : Int) + 1))), (4, .int (iI ((stZ (stN l D thr (gaN l l.length).1 (gaN l l.length).2 i (coN l D thr (gaN l l.length).1 (gaN l l.length).2 i).2.1))))), (2, .int (iI ((((coN l D thr (gaN l l.length).1 (gaN l l.length).2 i).2.1 : Nat) : Int)))), (1, .int (iI ((((coN l D thr (gaN l l.length).1 (gaN l l.length).2 i).2.2 : Nat) : Int)))), (0, .ref mo)] hb 76 5 1 dX9_attachAll_73 rfl rfl hnL (by decide) (((i : Nat) : Int) + 1) (by omega) rfl ?_
          refine r_goto hb 22 dX9_attachAll_76 (by decide) ?_
          have hs0 : stN l D thr (gaN l l.length).1 (gaN l l.length).2 i (coN l D thr (gaN l l.length).1 (gaN l l.length).2 i).2.1 = -1005 := by
            rcases hst with h | ⟨s, h, -⟩
            · exact h
            · exfalso; rw [h] at c40; unfold stZ at c40; rw [if_neg (by omega)] at c40; omega
          have e := coN_no hs0
          refine r_lv [(3, .int (iI (((i + 1 : Nat) : Int)))), (2, .int (iI ((((coN l D thr (gaN l l.length).1 (gaN l l.length).2 (i + 1)).2.1 : Nat) : Int)))), (1, .int (iI ((((coN l D thr (gaN l l.length).1 (gaN l l.length).2 (i + 1)).2.2 : Nat) : Int)))), (0, .ref mo)] [0, 2, 3, 4] (by rw [e]; rfl) ?_
          exact ih_lp ((gaN l l.length).2 - (i + 1)) (by omega) (i + 1) _ gi rfl (by omega) mc vc sc pc kc ic bc lc oc xc ec uc hDi (by rw [e]; exact hPi) hO (by rw [e]; exact hfr)
        · obtain ⟨s, hs1, hs2, hs3, hs4⟩ : ∃ s : Nat, stN l D thr (gaN l l.length).1 (gaN l l.length).2 i (coN l D thr (gaN l l.length).1 (gaN l l.length).2 i).2.1 = (s : Int) ∧ (coN l D thr (gaN l l.length).1 (gaN l l.length).2 i).2.1 ≤ s ∧ s < D.length ∧ elN (lg l ((gaN l l.length).1 i)) D thr s ≠ -1005 := by
            rcases hst with h | h
            · exfalso; rw [h] at c40; revert c40; decide
            · exact h
          clear hst
          have hsz : stZ (stN l D thr (gaN l l.length).1 (gaN l l.length).2 i (coN l D thr (gaN l l.length).1 (gaN l l.length).2 i).2.1) = ((s : Nat) : Int) := by rw [hs1]; unfold stZ; exact if_neg (by omega)
          have hxi : nOk (lg l ((gaN l l.length).1 i)) := (hok.2.2.2.1 ((gaN l l.length).1 i) (show (gaN l l.length).1 i < l.length from hgo i (by omega))).1
          obtain ⟨m, hge, hm1, hm2⟩ := elN_ne hxi ht.1 (show s ≤ 200 by omega) hs4
          have hgi := hgo i (by omega)
          have hNi : vnt gi (123 + 36 * (gaN l l.length).1 i) (lg (coN l D thr (gaN l l.length).1 (gaN l l.length).2 i).1 ((gaN l l.length).1 i)) := hPi.2.2.2.2 _ (by rw [coN_len]; exact hgi)
          refine r_lv [(4, .int (iI (((s : Nat) : Int)))), (3, .int (iI (((i : Nat) : Int)))), (2, .int (iI ((((coN l D thr (gaN l l.length).1 (gaN l l.length).2 i).2.1 : Nat) : Int)))), (1, .int (iI ((((coN l D thr (gaN l l.length).1 (gaN l l.length).2 i).2.2 : Nat) : Int)))), (0, .ref mo)] [0, 1, 2, 3, 4] (congrArg (fun zz : Int => ([(4, .int (iI zz)), (3, .int (iI (((i : Nat) : Int)))), (2, .int (iI ((((coN l D thr (gaN l l.length).1 (gaN l l.length).2 i).2.1 : Nat) : Int)))), (1, .int (iI ((((coN l D thr (gaN l l.length).1 (gaN l l.length).2 i).2.2 : Nat) : Int)))), (0, .ref mo)] : List (Nat × Value))) hsz) ?_
          refine r_aload_n hb 44 dX9_attachAll_43 rfl 4 rfl ?_
          refine r_aload_n hb 45 dX9_attachAll_44 rfl 4 rfl ?_
          refine r_get hb ho 48 dX9_attachAll_45 rfl lk_X9_36 pf_X9_15 mc rfl ?_
          refine r_iload_n hb 49 dX9_attachAll_48 rfl 1 rfl ?_
          refine r_ialdN hb 50 dX9_attachAll_49 rfl oc i (by omega) (⟨by omega, by omega⟩) ?_
          refine r_topv (.int (iI ((((gaN l l.length).1 i : Nat) : Int)))) (by rw [hod i (by omega)]) ?_
          refine r_iload hb 52 dX9_attachAll_50 rfl 0 rfl ?_
          refine r_aload_n hb 53 dX9_attachAll_52 rfl 4 rfl ?_
          refine r_get hb ho 56 dX9_attachAll_53 rfl lk_X9_42 pf_X9_18 mc rfl ?_
          refine r_bipush 121 hb 58 dX9_attachAll_56 rfl rfl ?_
          refine r_iload_n hb 59 dX9_attachAll_58 rfl 1 rfl ?_
          refine r_imulZ hb 60 (121 * ((i : Nat) : Int)) dX9_attachAll_59 rfl (by omega) ?_
          refine r_iload hb 62 dX9_attachAll_60 rfl 0 rfl ?_
          refine r_iaddZ hb 63 (121 * ((i : Nat) : Int) + ((s : Nat) : Int)) dX9_attachAll_62 rfl (by omega) ?_
          refine r_ialdZ hb 64 dX9_attachAll_63 rfl ec (121 * i + s) (by omega) (⟨by omega, by omega⟩) ?_
          refine r_topv (.int (iI ((((m - s : Nat) : Nat) : Int)))) (congrArg (fun z => Value.int (iI z)) (((hq i s (by omega) (by omega)).2 hs4).trans (by rw [hge]; omega))) ?_
          refine r_callV0 (st := []) hb ho 67 dX9_attachAll_64 rfl ck_X9_137 (c_X9_attaches mo rg6 gi ((gaN l l.length).1 i) (lg (coN l D thr (gaN l l.length).1 (gaN l l.length).2 i).1 ((gaN l l.length).1 i)) s (m - s) mc vc hNi (by omega) (by omega)) rfl rfl (mc) rfl rfl (by rw [hR0]; exact ⟨Nat.le_of_ble_eq_true rfl, Nat.le_of_ble_eq_true rfl⟩) (Nat.le_of_ble_eq_true rfl) ⟨rfl, rfl⟩ (by rw [hR0]; exact Nat.zero_le _) (by rw [hR0]; exact Nat.zero_le _) (fun w_64 nw_64 qw_64 => ?_)
          obtain ⟨rfl, ⟨g1, vc, ⟨hN1, e1⟩⟩, ow_64⟩ := qw_64
          have mc : w_64 mo = some (eO 9 [.ref (mo + 1), .ref (mo + 2), .ref (mo + 3), .int (iI ((rg6 3))), .ref (mo + 4), .ref (mo + 5), .int (iI ((rg6 6))), .ref (mo + 6), .int (iI ((rg6 8))), .ref (mo + 7), .int (iI ((rg6 10))), .int (iI ((rg6 11))), .int (iI ((rg6 12))), .int (iI ((rg6 13))), .int (iI ((rg6 14))), .ref (mo + 8), .int (iI ((rg6 16))), .ref (mo + 9), .ref (mo + 10), .ref (mo + 11)]) := (ow_64 _ (by omega)).trans mc
          have sc : w_64 (mo + 2) = some (eI 483 sp1) := (ow_64 _ (by omega)).trans sc
          have pc : w_64 (mo + 3) = some (eI 2898 pa) := (ow_64 _ (by omega)).trans pc
          have kc : w_64 (mo + 4) = some (eI 968 kp) := (ow_64 _ (by omega)).trans kc
          have ic : w_64 (mo + 5) = some (eZ 2 ik) := (ow_64 _ (by omega)).trans ic
          have bc : w_64 (mo + 6) = some (eI 40 bg) := (ow_64 _ (by omega)).trans bc
          have lc : w_64 (mo + 7) = some (eI 17 (fun ii => iI ((ln6 ii : Nat) : Int))) := (ow_64 _ (by omega)).trans lc
          have oc : w_64 (mo + 8) = some (eI 10 (fun ii => iI ((od1 ii : Nat) : Int))) := (ow_64 _ (by omega)).trans oc
          have xc : w_64 (mo + 9) = some (eI 1210 (fun ii => iI (si ii))) := (ow_64 _ (by omega)).trans xc
          have ec : w_64 (mo + 10) = some (eI 1210 (fun ii => iI (ei ii))) := (ow_64 _ (by omega)).trans ec
          have uc : w_64 (mo + 11) = some (eI 1331 (fun ii => iI (ui ii))) := (ow_64 _ (by omega)).trans uc
          refine r_iload hb 69 dX9_attachAll_67 rfl 0 rfl ?_
          refine r_istore_n [(2, .int (iI (((s : Nat) : Int)))), (4, .int (iI (((s : Nat) : Int)))), (3, .int (iI (((i : Nat) : Int)))), (1, .int (iI ((((coN l D thr (gaN l l.length).1 (gaN l l.length).2 i).2.2 : Nat) : Int)))), (0, .ref mo)] hb 70 5 dX9_attachAll_69 rfl rfl hnL (by decide) rfl ?_
          refine r_iinc [(1, .int (iI ((((coN l D thr (gaN l l.length).1 (gaN l l.length).2 i).2.2 : Nat) : Int) + 1))), (2, .int (iI (((s : Nat) : Int)))), (4, .int (iI (((s : Nat) : Int)))), (3, .int (iI (((i : Nat) : Int)))), (0, .ref mo)] hb 73 5 3 dX9_attachAll_70 rfl rfl hnL (by decide) ((((coN l D thr (gaN l l.length).1 (gaN l l.length).2 i).2.2 : Nat) : Int) + 1) (by omega) rfl ?_
          refine r_iinc [(3, .int (iI (((i : Nat) : Int) + 1))), (1, .int (iI ((((coN l D thr (gaN l l.length).1 (gaN l l.length).2 i).2.2 : Nat) : Int) + 1))), (2, .int (iI (((s : Nat) : Int)))), (4, .int (iI (((s : Nat) : Int)))), (0, .ref mo)] hb 76 5 3 dX9_attachAll_73 rfl rfl hnL (by decide) (((i : Nat) : Int) + 1) (by omega) rfl ?_
          refine r_goto hb 22 dX9_attachAll_76 (by decide) ?_
          have e := coN_yes hs1
          refine r_lv [(3, .int (iI (((i + 1 : Nat) : Int)))), (2, .int (iI ((((coN l D thr (gaN l l.length).1 (gaN l l.length).2 (i + 1)).2.1 : Nat) : Int)))), (1, .int (iI ((((coN l D thr (gaN l l.length).1 (gaN l l.length).2 (i + 1)).2.2 : Nat) : Int)))), (0, .ref mo)] [0, 2, 1, 4] (by rw [e]; rfl) ?_
          exact ih_lp ((gaN l l.length).2 - (i + 1)) (by omega) (i + 1) _ g1 rfl (by omega) mc vc sc pc kc ic bc lc oc xc ec uc (hDi.congr (fun q hq => e1 q (by omega))) (by rw [e, hge, show ((m : Nat) : Int).toNat = m from rfl]; have hv := vnp_set hPi hN1 (fun q hq => e1 q hq); rw [show s + (m - s) = m by omega] at hv; exact hv) (hO.trans (ow_64.mono (by omega) (by omega))) (by rw [e]; show s ≤ D.length; omega)
  refine r_lv [(3, .int (iI (((0 : Nat) : Int)))), (2, .int (iI ((((coN l D thr (gaN l l.length).1 (gaN l l.length).2 0).2.1 : Nat) : Int)))), (1, .int (iI ((((coN l D thr (gaN l l.length).1 (gaN l l.length).2 0).2.2 : Nat) : Int)))), (0, .ref mo)] [0, 1, 2, 3] rfl ?_
  exact lp _ 0 _ g rfl (Nat.zero_le _) mc vc sc pc kc ic bc lc oc xc ec uc hD hP ((((ow_1.cov (by omega) (by omega) (by omega) (by omega)).trans (ow_5.cov (by omega) (by omega) (by omega) (by omega))).trans (ow_9.mono (by omega) (by omega))).trans (ow_13.mono (by omega) (by omega))) (Nat.zero_le _)
