abbrev rm_X9_findOrder : Room := { frames := 1, cells := 0, slots := 0, locals := 21 }
set_option maxHeartbeats 4000000 in
set_option maxRecDepth 100000 in
theorem c_X9_findOrder (mo : Nat) (rg : Nat → Int) (g : Nat → Int32) (od : Nat → Nat) (l : List Nt) (nx : Nat) {w : PW} {n : Nat} (mc : w mo = some (mE mo rg)) (vc : w (mo + 1) = some (eI 483 g)) (oc : w (mo + 8) = some (eI 10 (fun ii => iI ((od ii : Nat) : Int)))) (hP : vnp g l nx) : Ct0 yX9_findOrder cX9_findOrder 3 none rm_X9_findOrder [.ref mo] w n (fun w1 n1 => n = n1 ∧ (∃ (rg1 : Nat → Int) (od1 : Nat → Nat), w1 mo = some (mE mo rg1) ∧ (∀ i, i ≠ 16 → rg1 i = rg i) ∧ rg1 16 = (((gaN l l.length).2 : Nat) : Int) ∧ w1 (mo + 8) = some (eI 10 (fun ii => iI ((od1 ii : Nat) : Int))) ∧ ∀ j, j < (gaN l l.length).2 → od1 j = (gaN l l.length).1 j) ∧ off2 w w1 mo (mo + 1) (mo + 8) (mo + 9)) := by
  have hPl := hP.2.2.1
  refine Ctr.of rfl (Nat.le_of_ble_eq_true rfl) fun S hS => ?_
  have hb : S.1.1 = cX9_findOrder := by rw [hS]; rfl
  have ho : S.1.2.1 = RX9 := by rw [hS]; rfl
  have hnL : S.1.2.2.1 = 3 := by rw [hS]; rfl
  have hR0 : S.2.1 = rm_X9_findOrder := by rw [hS]; rfl
  show Wp S 0 [(0, .ref mo)] [] w n 0 0
  refine r_aload_n hb 1 dX9_findOrder_0 rfl 0 rfl ?_
  refine r_iconst hb 2 dX9_findOrder_1 rfl ?_
  refine r_put hb ho 5 dX9_findOrder_2 rfl lk_X9_141 pf_X9_16 mc (Nat.le_of_ble_eq_true rfl) ⟨rfl, rfl⟩ (fun w_2 hw_2 => ?_)
  have ow_2 := pset_off hw_2
  have xw_2 : w_2 mo = some (eO 9 [.ref (mo + 1), .ref (mo + 2), .ref (mo + 3), .int (iI ((rg 3))), .ref (mo + 4), .ref (mo + 5), .int (iI ((rg 6))), .ref (mo + 6), .int (iI ((rg 8))), .ref (mo + 7), .int (iI ((rg 10))), .int (iI ((rg 11))), .int (iI ((rg 12))), .int (iI ((rg 13))), .int (iI ((rg 14))), .ref (mo + 8), .int (iI 0), .ref (mo + 9), .ref (mo + 10), .ref (mo + 11)]) := by rw [hw_2]; exact pset_eq _ _ _
  have vc : w_2 (mo + 1) = some (eI 483 g) := (ow_2 _ (by omega)).trans vc
  have oc : w_2 (mo + 8) = some (eI 10 (fun ii => iI ((od ii : Nat) : Int))) := (ow_2 _ (by omega)).trans oc
  refine r_iconst hb 6 dX9_findOrder_5 rfl ?_
  refine r_istore_n [(1, .int (iI 0)), (0, .ref mo)] hb 7 3 dX9_findOrder_6 rfl rfl hnL (by decide) rfl ?_
  have lp : ∀ (d : Nat) (k : Nat) (wi : PW) (rgi : Nat → Int) (oi : Nat → Nat), l.length - k = d → (k ≤ l.length) → (wi mo = some (eO 9 [.ref (mo + 1), .ref (mo + 2), .ref (mo + 3), .int (iI ((rgi 3))), .ref (mo + 4), .ref (mo + 5), .int (iI ((rgi 6))), .ref (mo + 6), .int (iI ((rgi 8))), .ref (mo + 7), .int (iI ((rgi 10))), .int (iI ((rgi 11))), .int (iI ((rgi 12))), .int (iI ((rgi 13))), .int (iI ((rgi 14))), .ref (mo + 8), .int (iI ((rgi 16))), .ref (mo + 9), .ref (mo + 10), .ref (mo + 11)])) → (wi (mo + 1) = some (eI 483 g)) → (wi (mo + 8) = some (eI 10 (fun ii => iI ((oi ii : Nat) : Int)))) → (rgi 16 = (((gaN l k).2 : Nat) : Int)) → (∀ j, j < (gaN l k).2 → oi j = (gaN l k).1 j) → (∀ i, i ≠ 16 → rgi i = rg i) → (off2 w wi mo (mo + 1) (mo + 8) (mo + 9)) → Wp S 7 [(1, .int (iI (((k : Nat) : Int)))), (0, .ref mo)] [] wi n 0 0 := by
    intro d
    induction d using Nat.strongRecOn with
    | _ d ih_lp =>
      intro k wi rgi oi hd_lp hk mc vc oc h16 hoi hF hO
      have hgl := gaN_le l k
      refine r_iload_n hb 8 dX9_findOrder_7 rfl 0 rfl ?_
      refine r_aload_n hb 9 dX9_findOrder_8 rfl 1 rfl ?_
      refine r_get hb ho 12 dX9_findOrder_9 rfl lk_X9_7 pf_X9_0 mc rfl ?_
      refine r_bipush 122 hb 14 dX9_findOrder_12 rfl rfl ?_
      refine r_iald hb 15 dX9_findOrder_14 rfl vc 122 (by omega) (⟨by omega, by omega⟩) ?_
      refine r_topz ((((l).length : Nat) : Int)) (hP.2.1) ?_
      refine r_icmp_ge hb 18 113 dX9_findOrder_15 rfl (by decide) (by omega) (by omega) (fun c15 => ?_) (fun c15 => ?_)
      · refine r_vret hS dX9_findOrder_113 rfl (Nat.zero_le _) (Nat.zero_le _) ?_
        have ek : k = l.length := by omega
        subst ek
        exact ⟨rfl, rfl, ⟨rgi, oi, mc, hF, h16, oc, hoi⟩, hO⟩
      · obtain ⟨n0, n1, n2, n3, n4, n5, n6, n7, n8, n9, n10, n11, n12, n13⟩ := id (hP.2.2.2.2 k (by omega))
        refine r_aload_n hb 19 dX9_findOrder_18 rfl 1 rfl ?_
        refine r_get hb ho 22 dX9_findOrder_19 rfl lk_X9_7 pf_X9_0 mc rfl ?_
        refine r_iload_n hb 23 dX9_findOrder_22 rfl 0 rfl ?_
        refine r_iconst hb 24 dX9_findOrder_23 rfl ?_
        refine r_callSR (st := [.ref (mo + 1)]) hb ho 27 dX9_findOrder_24 rfl ck_X9_48 (c_X9_at (((k : Nat) : Int)) 1 (36 * ((k : Nat) : Int) + 124) (by omega)) rfl rfl (by rw [hR0]; exact ⟨Nat.le_of_ble_eq_true rfl, Nat.le_of_ble_eq_true rfl⟩) (Nat.le_of_ble_eq_true rfl) ⟨rfl, rfl⟩ (by rw [hR0]; exact Nat.zero_le _) (by rw [hR0]; exact Nat.zero_le _) ?_
        refine r_iald hb 28 dX9_findOrder_27 rfl vc (123 + 36 * k + 1) (by omega) (⟨by omega, by omega⟩) ?_
        refine r_topv (.int (bI (nK (lg l k)))) (congrArg Value.int (n1)) ?_
        refine r_ifb_ne hb 31 107 dX9_findOrder_28 rfl (by decide) (fun c28 => ?_) (fun c28 => ?_)
        · refine r_iinc [(1, .int (iI (((k : Nat) : Int) + 1))), (0, .ref mo)] hb 110 3 0 dX9_findOrder_107 rfl rfl hnL (by decide) (((k : Nat) : Int) + 1) (by omega) rfl ?_
          refine r_goto hb 7 dX9_findOrder_110 (by decide) ?_
          have e : gaN l (k + 1) = gaN l k := by simp only [gaN]; rw [if_pos c28]
          refine r_lv [(1, .int (iI (((k + 1 : Nat) : Int)))), (0, .ref mo)] [0, 1] rfl ?_
          exact ih_lp (l.length - (k + 1)) (by omega) (k + 1) _ rgi oi rfl (by omega) mc vc oc (by rw [e]; exact h16) (by rw [e]; exact hoi) hF hO
        · refine r_aload_n hb 32 dX9_findOrder_31 rfl 1 rfl ?_
          refine r_get hb ho 35 dX9_findOrder_32 rfl lk_X9_141 pf_X9_16 mc rfl ?_
          refine r_topv (.int (iI ((((gaN l k).2 : Nat) : Int)))) (congrArg (fun z => Value.int (iI z)) h16) ?_
          refine r_istore_n [(2, .int (iI ((((gaN l k).2 : Nat) : Int)))), (1, .int (iI (((k : Nat) : Int)))), (0, .ref mo)] hb 36 3 dX9_findOrder_35 rfl rfl hnL (by decide) rfl ?_
          have li : ∀ (d : Nat) (p : Nat) (wj : PW) (oj : Nat → Nat), p = d → (p ≤ (gaN l k).2) → (wj mo = some (eO 9 [.ref (mo + 1), .ref (mo + 2), .ref (mo + 3), .int (iI ((rgi 3))), .ref (mo + 4), .ref (mo + 5), .int (iI ((rgi 6))), .ref (mo + 6), .int (iI ((rgi 8))), .ref (mo + 7), .int (iI ((rgi 10))), .int (iI ((rgi 11))), .int (iI ((rgi 12))), .int (iI ((rgi 13))), .int (iI ((rgi 14))), .ref (mo + 8), .int (iI ((rgi 16))), .ref (mo + 9), .ref (mo + 10), .ref (mo + 11)])) → (wj (mo + 1) = some (eI 483 g)) → (wj (mo + 8) = some (eI 10 (fun ii => iI ((oj ii : Nat) : Int)))) → (dnL (fun p => decide (nB (lg l k) < nB (lg l ((gaN l k).1 p)))) p = dnL (fun p => decide (nB (lg l k) < nB (lg l ((gaN l k).1 p)))) (gaN l k).2) → (∀ j, j < p → oj j = (gaN l k).1 j) → (∀ j, p < j → j ≤ (gaN l k).2 → oj j = (gaN l k).1 (j - 1)) → (off2 wi wj mo (mo + 1) (mo + 8) (mo + 9)) → Wp S 36 [(2, .int (iI (((p : Nat) : Int)))), (1, .int (iI (((k : Nat) : Int)))), (0, .ref mo)] [] wj n 0 0 := by
            intro d
            induction d using Nat.strongRecOn with
            | _ d ih_li =>
              intro p wj oj hd_li hp mc vc oc hdn q1 q2 hOj
              refine r_iload_n hb 37 dX9_findOrder_36 rfl 0 rfl ?_
              refine r_if_le hb 40 90 dX9_findOrder_37 rfl (by decide) (by omega) (fun c37 => ?_) (fun c37 => ?_)
              · refine r_aload_n hb 91 dX9_findOrder_90 rfl 2 rfl ?_
                refine r_get hb ho 94 dX9_findOrder_91 rfl lk_X9_36 pf_X9_15 mc rfl ?_
                refine r_iload_n hb 95 dX9_findOrder_94 rfl 0 rfl ?_
                refine r_iload_n hb 96 dX9_findOrder_95 rfl 1 rfl ?_
                refine r_iastN (x := k) (by omega) hb 97 dX9_findOrder_96 rfl oc p (by omega) (⟨by omega, by omega⟩) (fun w_96 hw_96 => ?_)
                have ow_96 := pset_off hw_96
                have xw_96 : w_96 (mo + 8) = some (eI 10 (fun ii => iI (((updN oj p k) ii : Nat) : Int))) := by rw [hw_96]; exact pset_eq _ _ _
                have mc : w_96 mo = some (eO 9 [.ref (mo + 1), .ref (mo + 2), .ref (mo + 3), .int (iI ((rgi 3))), .ref (mo + 4), .ref (mo + 5), .int (iI ((rgi 6))), .ref (mo + 6), .int (iI ((rgi 8))), .ref (mo + 7), .int (iI ((rgi 10))), .int (iI ((rgi 11))), .int (iI ((rgi 12))), .int (iI ((rgi 13))), .int (iI ((rgi 14))), .ref (mo + 8), .int (iI ((rgi 16))), .ref (mo + 9), .ref (mo + 10), .ref (mo + 11)]) := (ow_96 _ (by omega)).trans mc
                have vc : w_96 (mo + 1) = some (eI 483 g) := (ow_96 _ (by omega)).trans vc
                refine r_aload_n hb 98 dX9_findOrder_97 rfl 2 rfl ?_
                refine r_dup hb 99 dX9_findOrder_98 rfl rfl ?_
                refine r_get hb ho 102 dX9_findOrder_99 rfl lk_X9_141 pf_X9_16 mc rfl ?_
                refine r_iconst hb 103 dX9_findOrder_102 rfl ?_
                refine r_iaddZ hb 104 ((rgi 16) + 1) dX9_findOrder_103 rfl (by omega) ?_
                refine r_put hb ho 107 dX9_findOrder_104 rfl lk_X9_141 pf_X9_16 mc (Nat.le_of_ble_eq_true rfl) ⟨rfl, rfl⟩ (fun w_104 hw_104 => ?_)
                have ow_104 := pset_off hw_104
                have xw_104 : w_104 mo = some (eO 9 [.ref (mo + 1), .ref (mo + 2), .ref (mo + 3), .int (iI ((rgi 3))), .ref (mo + 4), .ref (mo + 5), .int (iI ((rgi 6))), .ref (mo + 6), .int (iI ((rgi 8))), .ref (mo + 7), .int (iI ((rgi 10))), .int (iI ((rgi 11))), .int (iI ((rgi 12))), .int (iI ((rgi 13))), .int (iI ((rgi 14))), .ref (mo + 8), .int (iI ((rgi 16) + 1)), .ref (mo + 9), .ref (mo + 10), .ref (mo + 11)]) := by rw [hw_104]; exact pset_eq _ _ _
                have xw_96 : w_104 (mo + 8) = some (eI 10 (fun ii => iI (((updN oj p k) ii : Nat) : Int))) := (ow_104 _ (by omega)).trans xw_96
                have vc : w_104 (mo + 1) = some (eI 483 g) := (ow_104 _ (by omega)).trans vc
                refine r_iinc [(1, .int (iI (((k : Nat) : Int) + 1))), (2, .int (iI (((p : Nat) : Int)))), (0, .ref mo)] hb 110 3 1 dX9_findOrder_107 rfl rfl hnL (by decide) (((k : Nat) : Int) + 1) (by omega) rfl ?_
                refine r_goto hb 7 dX9_findOrder_110 (by decide) ?_
                have hp0 : dnL (fun p => decide (nB (lg l k) < nB (lg l ((gaN l k).1 p)))) p = p := by rw [show p = 0 by omega]; rfl
                rw [hp0] at hdn
                have e : gaN l (k + 1) = (insF l (gaN l k).1 (gaN l k).2 k, (gaN l k).2 + 1) := by simp only [gaN]; rw [if_neg (by rw [c28]; decide)]
                refine r_lv [(1, .int (iI (((k + 1 : Nat) : Int)))), (0, .ref mo)] [0, 2] rfl ?_
                refine ih_lp (l.length - (k + 1)) (by omega) (k + 1) _ (updZ rgi 16 (rgi 16 + 1)) _ rfl (by omega) xw_104 vc xw_96 ?_ ?_ ?_ (((hO.trans (hOj)).trans (off_r ow_96 (by omega) (by omega) _ _)).trans (off_l ow_104 (by omega) (by omega) _ _))
                · rw [e, updZ_s]; show rgi 16 + 1 = (((gaN l k).2 + 1 : Nat) : Int); omega
                · intro j hj
                  rw [e] at hj ⊢
                  simp only at hj ⊢
                  simp only [insF]
                  rw [← hdn]
                  by_cases e1 : j = p
                  · rw [if_neg (by omega), if_pos e1, e1, updN_s]
                  · rw [updN_n _ _ e1]
                    by_cases e2 : j < p
                    · rw [if_pos e2]; exact q1 j e2
                    · rw [if_neg e2, if_neg e1]; exact q2 j (by omega) (by omega)
                · intro i hi; rw [updZ_n _ _ hi]; exact hF i hi
              · refine r_aload_n hb 41 dX9_findOrder_40 rfl 2 rfl ?_
                refine r_get hb ho 44 dX9_findOrder_41 rfl lk_X9_7 pf_X9_0 mc rfl ?_
                refine r_aload_n hb 45 dX9_findOrder_44 rfl 2 rfl ?_
                refine r_get hb ho 48 dX9_findOrder_45 rfl lk_X9_36 pf_X9_15 mc rfl ?_
                refine r_iload_n hb 49 dX9_findOrder_48 rfl 0 rfl ?_
                refine r_iconst hb 50 dX9_findOrder_49 rfl ?_
                refine r_isubZ hb 51 (((p : Nat) : Int) - 1) dX9_findOrder_50 rfl (by omega) ?_
                refine r_ialdN hb 52 dX9_findOrder_51 rfl oc (p - 1) (by omega) (⟨by omega, by omega⟩) ?_
                refine r_topv (.int (iI ((((gaN l k).1 (p - 1) : Nat) : Int)))) (by rw [q1 (p - 1) (by omega)]) ?_
                have hgo := gaN_lt l k (p - 1) (by omega)
                obtain ⟨m0, m1, m2, m3, m4, m5, m6, m7, m8, m9, m10, m11, m12, m13⟩ := id (hP.2.2.2.2 ((gaN l k).1 (p - 1)) (by omega))
                refine r_iconst hb 53 dX9_findOrder_52 rfl ?_
                refine r_callSR (st := [.ref (mo + 1)]) hb ho 56 dX9_findOrder_53 rfl ck_X9_48 (c_X9_at ((((gaN l k).1 (p - 1) : Nat) : Int)) 2 (36 * (((gaN l k).1 (p - 1) : Nat) : Int) + 125) (by omega)) rfl rfl (by rw [hR0]; exact ⟨Nat.le_of_ble_eq_true rfl, Nat.le_of_ble_eq_true rfl⟩) (Nat.le_of_ble_eq_true rfl) ⟨rfl, rfl⟩ (by rw [hR0]; exact Nat.zero_le _) (by rw [hR0]; exact Nat.zero_le _) ?_
                refine r_iald hb 57 dX9_findOrder_56 rfl vc (123 + 36 * ((gaN l k).1 (p - 1)) + 2) (by omega) (⟨by omega, by omega⟩) ?_
                refine r_topz (((nB (lg l ((gaN l k).1 (p - 1))) : Nat) : Int)) (m2) ?_
                refine r_aload_n hb 58 dX9_findOrder_57 rfl 2 rfl ?_
                refine r_get hb ho 61 dX9_findOrder_58 rfl lk_X9_7 pf_X9_0 mc rfl ?_
                refine r_iload_n hb 62 dX9_findOrder_61 rfl 1 rfl ?_
                refine r_iconst hb 63 dX9_findOrder_62 rfl ?_
                refine r_callSR (st := [.ref (mo + 1), .int (iI (((nB (lg l ((gaN l k).1 (p - 1))) : Nat) : Int)))]) hb ho 66 dX9_findOrder_63 rfl ck_X9_48 (c_X9_at (((k : Nat) : Int)) 2 (36 * ((k : Nat) : Int) + 125) (by omega)) rfl rfl (by rw [hR0]; exact ⟨Nat.le_of_ble_eq_true rfl, Nat.le_of_ble_eq_true rfl⟩) (Nat.le_of_ble_eq_true rfl) ⟨rfl, rfl⟩ (by rw [hR0]; exact Nat.zero_le _) (by rw [hR0]; exact Nat.zero_le _) ?_
                refine r_iald hb 67 dX9_findOrder_66 rfl vc (123 + 36 * k + 2) (by omega) (⟨by omega, by omega⟩) ?_
                refine r_topz (((nB (lg l k) : Nat) : Int)) (n2) ?_
                refine r_icmp_le hb 70 90 dX9_findOrder_67 rfl (by decide) (by omega) (by omega) (fun c67 => ?_) (fun c67 => ?_)
                · refine r_aload_n hb 91 dX9_findOrder_90 rfl 2 rfl ?_
                  refine r_get hb ho 94 dX9_findOrder_91 rfl lk_X9_36 pf_X9_15 mc rfl ?_
                  refine r_iload_n hb 95 dX9_findOrder_94 rfl 0 rfl ?_
                  refine r_iload_n hb 96 dX9_findOrder_95 rfl 1 rfl ?_
                  refine r_iastN (x := k) (by omega) hb 97 dX9_findOrder_96 rfl oc p (by omega) (⟨by omega, by omega⟩) (fun w_96 hw_96 => ?_)
                  have ow_96 := pset_off hw_96
                  have xw_96 : w_96 (mo + 8) = some (eI 10 (fun ii => iI (((updN oj p k) ii : Nat) : Int))) := by rw [hw_96]; exact pset_eq _ _ _
                  have mc : w_96 mo = some (eO 9 [.ref (mo + 1), .ref (mo + 2), .ref (mo + 3), .int (iI ((rgi 3))), .ref (mo + 4), .ref (mo + 5), .int (iI ((rgi 6))), .ref (mo + 6), .int (iI ((rgi 8))), .ref (mo + 7), .int (iI ((rgi 10))), .int (iI ((rgi 11))), .int (iI ((rgi 12))), .int (iI ((rgi 13))), .int (iI ((rgi 14))), .ref (mo + 8), .int (iI ((rgi 16))), .ref (mo + 9), .ref (mo + 10), .ref (mo + 11)]) := (ow_96 _ (by omega)).trans mc
                  have vc : w_96 (mo + 1) = some (eI 483 g) := (ow_96 _ (by omega)).trans vc
                  refine r_aload_n hb 98 dX9_findOrder_97 rfl 2 rfl ?_
                  refine r_dup hb 99 dX9_findOrder_98 rfl rfl ?_
                  refine r_get hb ho 102 dX9_findOrder_99 rfl lk_X9_141 pf_X9_16 mc rfl ?_
                  refine r_iconst hb 103 dX9_findOrder_102 rfl ?_
                  refine r_iaddZ hb 104 ((rgi 16) + 1) dX9_findOrder_103 rfl (by omega) ?_
                  refine r_put hb ho 107 dX9_findOrder_104 rfl lk_X9_141 pf_X9_16 mc (Nat.le_of_ble_eq_true rfl) ⟨rfl, rfl⟩ (fun w_104 hw_104 => ?_)
                  have ow_104 := pset_off hw_104
                  have xw_104 : w_104 mo = some (eO 9 [.ref (mo + 1), .ref (mo + 2), .ref (mo + 3), .int (iI ((rgi 3))), .ref (mo + 4), .ref (mo + 5), .int (iI ((rgi 6))), .ref (mo + 6), .int (iI ((rgi 8))), .ref (mo + 7), .int (iI ((rgi 10))), .int (iI ((rgi 11))), .int (iI ((rgi 12))), .int (iI ((rgi 13))), .int (iI ((rgi 14))), .ref (mo + 8), .int (iI ((rgi 16) + 1)), .ref (mo + 9), .ref (mo + 10), .ref (mo + 11)]) := by rw [hw_104]; exact pset_eq _ _ _
                  have xw_96 : w_104 (mo + 8) = some (eI 10 (fun ii => iI (((updN oj p k) ii : Nat) : Int))) := (ow_104 _ (by omega)).trans xw_96
                  have vc : w_104 (mo + 1) = some (eI 483 g) := (ow_104 _ (by omega)).trans vc
                  refine r_iinc [(1, .int (iI (((k : Nat) : Int) + 1))), (2, .int (iI (((p : Nat) : Int)))), (0, .ref mo)] hb 110 3 1 dX9_findOrder_107 rfl rfl hnL (by decide) (((k : Nat) : Int) + 1) (by omega) rfl ?_
                  refine r_goto hb 7 dX9_findOrder_110 (by decide) ?_
                  have hp0 : dnL (fun p => decide (nB (lg l k) < nB (lg l ((gaN l k).1 p)))) p = p := by
                    rw [show p = (p - 1) + 1 by omega]; simp only [dnL]; rw [if_neg]
                    rw [decide_eq_true_eq]; omega
                  rw [hp0] at hdn
                  have e : gaN l (k + 1) = (insF l (gaN l k).1 (gaN l k).2 k, (gaN l k).2 + 1) := by simp only [gaN]; rw [if_neg (by rw [c28]; decide)]
                  refine r_lv [(1, .int (iI (((k + 1 : Nat) : Int)))), (0, .ref mo)] [0, 2] rfl ?_
                  refine ih_lp (l.length - (k + 1)) (by omega) (k + 1) _ (updZ rgi 16 (rgi 16 + 1)) _ rfl (by omega) xw_104 vc xw_96 ?_ ?_ ?_ (((hO.trans (hOj)).trans (off_r ow_96 (by omega) (by omega) _ _)).trans (off_l ow_104 (by omega) (by omega) _ _))
                  · rw [e, updZ_s]; show rgi 16 + 1 = (((gaN l k).2 + 1 : Nat) : Int); omega
                  · intro j hj
                    rw [e] at hj ⊢
                    simp only at hj ⊢
                    simp only [insF]
                    rw [← hdn]
                    by_cases e1 : j = p
                    · rw [if_neg (by omega), if_pos e1, e1, updN_s]
                    · rw [updN_n _ _ e1]
                      by_cases e2 : j < p
                      · rw [if_pos e2]; exact q1 j e2
                      · rw [if_neg e2, if_neg e1]; exact q2 j (by omega) (by omega)
                  · intro i hi; rw [updZ_n _ _ hi]; exact hF i hi
                · refine r_aload_n hb 71 dX9_findOrder_70 rfl 2 rfl ?_
                  refine r_get hb ho 74 dX9_findOrder_71 rfl lk_X9_36 pf_X9_15 mc rfl ?_
                  refine r_iload_n hb 75 dX9_findOrder_74 rfl 0 rfl ?_
                  refine r_aload_n hb 76 dX9_findOrder_75 rfl 2 rfl ?_
                  refine r_get hb ho 79 dX9_findOrder_76 rfl lk_X9_36 pf_X9_15 mc rfl ?_
                  refine r_iload_n hb 80 dX9_findOrder_79 rfl 0 rfl ?_
                  refine r_iconst hb 81 dX9_findOrder_80 rfl ?_
                  refine r_isubZ hb 82 (((p : Nat) : Int) - 1) dX9_findOrder_81 rfl (by omega) ?_
                  refine r_ialdN hb 83 dX9_findOrder_82 rfl oc (p - 1) (by omega) (⟨by omega, by omega⟩) ?_
                  refine r_topv (.int (iI ((((gaN l k).1 (p - 1) : Nat) : Int)))) (by rw [q1 (p - 1) (by omega)]) ?_
                  refine r_iastN (x := (((gaN l k).1 (p - 1)))) (by omega) hb 84 dX9_findOrder_83 rfl oc p (by omega) (⟨by omega, by omega⟩) (fun w_83 hw_83 => ?_)
                  have ow_83 := pset_off hw_83
                  have xw_83 : w_83 (mo + 8) = some (eI 10 (fun ii => iI (((updN oj p (((gaN l k).1 (p - 1)))) ii : Nat) : Int))) := by rw [hw_83]; exact pset_eq _ _ _
                  have mc : w_83 mo = some (eO 9 [.ref (mo + 1), .ref (mo + 2), .ref (mo + 3), .int (iI ((rgi 3))), .ref (mo + 4), .ref (mo + 5), .int (iI ((rgi 6))), .ref (mo + 6), .int (iI ((rgi 8))), .ref (mo + 7), .int (iI ((rgi 10))), .int (iI ((rgi 11))), .int (iI ((rgi 12))), .int (iI ((rgi 13))), .int (iI ((rgi 14))), .ref (mo + 8), .int (iI ((rgi 16))), .ref (mo + 9), .ref (mo + 10), .ref (mo + 11)]) := (ow_83 _ (by omega)).trans mc
                  have vc : w_83 (mo + 1) = some (eI 483 g) := (ow_83 _ (by omega)).trans vc
                  refine r_iinc [(2, .int (iI (((p : Nat) : Int) - 1))), (1, .int (iI (((k : Nat) : Int)))), (0, .ref mo)] hb 87 3 0 dX9_findOrder_84 rfl rfl hnL (by decide) (((p : Nat) : Int) - 1) (by omega) rfl ?_
                  refine r_goto hb 36 dX9_findOrder_87 (by decide) ?_
                  refine r_lv [(2, .int (iI ((((p - 1 : Nat) : Nat) : Int)))), (1, .int (iI (((k : Nat) : Int)))), (0, .ref mo)] [0, 1, 2] (congrArg (fun zz : Int => ([(2, .int (iI zz)), (1, .int (iI ((k : Nat) : Int))), (0, .ref mo)] : List (Nat × Value))) (show ((p : Nat) : Int) - 1 = ((p - 1 : Nat) : Int) from by omega)) ?_
                  refine ih_li (p - 1) (by omega) (p - 1) _ _ rfl (by omega) mc vc xw_83 ?_ ?_ ?_ (hOj.trans (off_r ow_83 (by omega) (by omega) _ _))
                  · rw [← hdn]
                    conv => rhs; rw [show p = (p - 1) + 1 by omega]
                    simp only [dnL]; rw [if_pos (decide_eq_true (by omega))]
                  · intro j hj; rw [updN_n _ _ (by omega)]; exact q1 j (by omega)
                  · intro j hj hj2
                    by_cases e : j = p
                    · subst e; rw [updN_s]
                    · rw [updN_n _ _ e]; exact q2 j (by omega) hj2
          refine r_lv [(2, .int (iI ((((gaN l k).2 : Nat) : Int)))), (1, .int (iI (((k : Nat) : Int)))), (0, .ref mo)] [0, 1, 2] rfl ?_
          exact li _ (gaN l k).2 _ oi rfl (Nat.le_refl _) mc vc oc rfl hoi (fun j h1 h2 => absurd h1 (by omega)) (off2.rfl' _ _ _ _ _)
  refine r_lv [(1, .int (iI (((0 : Nat) : Int)))), (0, .ref mo)] [0, 1] rfl ?_
  exact lp _ 0 _ (updZ rg 16 0) od rfl (Nat.zero_le _) xw_2 vc oc rfl (fun j hj => absurd hj (Nat.not_lt_zero _)) (fun i hi => updZ_n _ _ hi) (off_l ow_2 (by omega) (by omega) _ _)

def mSc (v : Int) : Int := if v = -1005 then -1 else v
abbrev rm_X9_findScores : Room := { frames := 4, cells := 0, slots := 0, locals := 96 }
set_option maxHeartbeats 4000000 in
set_option maxRecDepth 100000 in
theorem c_X9_findScores (mo : Nat) (rg : Nat → Int) (g : Nat → Int32) (ln od : Nat → Nat) (sco leo : Nat → Int) (D : List Int32) (l : List Nt) (nx : Nat) (thr : Int) (c : Nat) (o : Nat → Nat) {w : PW} {n : Nat} (mc : w mo = some (mE mo rg)) (vc : w (mo + 1) = some (eI 483 g)) (lc : w (mo + 7) = some (eI 17 (fun ii => iI ((ln ii : Nat) : Int)))) (oc : w (mo + 8) = some (eI 10 (fun ii => iI ((od ii : Nat) : Int)))) (xc : w (mo + 9) = some (eI 1210 (fun ii => iI (sco ii)))) (ec : w (mo + 10) = some (eI 1210 (fun ii => iI (leo ii)))) (hD : vdp g D) (hP : vnp g l nx) (hok : pOk (D, l, nx)) (ht : 0 ≤ thr ∧ thr ≤ 108) (h16 : rg 16 = (c : Int)) (h6 : rg 6 = thr) (hc : c ≤ 10) (hoo : ∀ j, j < c → od j = o j ∧ o j < l.length) : Ct0 yX9_findScores cX9_findScores 4 none rm_X9_findScores [.ref mo] w n (fun w1 n1 => n = n1 ∧ (∃ (rg1 : Nat → Int) (ln1 : Nat → Nat) (si ei : Nat → Int), w1 mo = some (mE mo rg1) ∧ (∀ k, k < 10 ∨ 12 ≤ k → rg1 k = rg k) ∧ w1 (mo + 7) = some (eI 17 (fun ii => iI ((ln1 ii : Nat) : Int))) ∧ w1 (mo + 8) = some (eI 10 (fun ii => iI ((od ii : Nat) : Int))) ∧ w1 (mo + 9) = some (eI 1210 (fun ii => iI (si ii))) ∧ w1 (mo + 10) = some (eI 1210 (fun ii => iI (ei ii))) ∧ ∀ a p, p < D.length → a < c → si (121 * a + p) = mSc (elN (lg l (o a)) D thr p) ∧ (elN (lg l (o a)) D thr p ≠ -1005 → ei (121 * a + p) = gE p (bA (lg l (o a)) D p) - (p : Int))) ∧ off2 w w1 mo (mo + 1) (mo + 7) (mo + 11)) := by
  have hPl := hP.2.2.1
  have hDl := hD.2.2
  refine Ctr.of rfl (Nat.le_of_ble_eq_true rfl) fun S hS => ?_
  have hb : S.1.1 = cX9_findScores := by rw [hS]; rfl
  have ho : S.1.2.1 = RX9 := by rw [hS]; rfl
  have hnL : S.1.2.2.1 = 4 := by rw [hS]; rfl
  have hR0 : S.2.1 = rm_X9_findScores := by rw [hS]; rfl
  show Wp S 0 [(0, .ref mo)] [] w n 0 0
  refine r_iconst hb 1 dX9_findScores_0 rfl ?_
  refine r_istore_n [(1, .int (iI 0)), (0, .ref mo)] hb 2 4 dX9_findScores_1 rfl rfl hnL (by decide) rfl ?_
  have lp : ∀ (d : Nat) (i : Nat) (wi : PW) (rgi : Nat → Int) (li : Nat → Nat) (si ei : Nat → Int), c - i = d → (i ≤ c) → (wi mo = some (eO 9 [.ref (mo + 1), .ref (mo + 2), .ref (mo + 3), .int (iI ((rgi 3))), .ref (mo + 4), .ref (mo + 5), .int (iI ((rgi 6))), .ref (mo + 6), .int (iI ((rgi 8))), .ref (mo + 7), .int (iI ((rgi 10))), .int (iI ((rgi 11))), .int (iI ((rgi 12))), .int (iI ((rgi 13))), .int (iI ((rgi 14))), .ref (mo + 8), .int (iI ((rgi 16))), .ref (mo + 9), .ref (mo + 10), .ref (mo + 11)])) → (wi (mo + 1) = some (eI 483 g)) → (wi (mo + 7) = some (eI 17 (fun ii => iI ((li ii : Nat) : Int)))) → (wi (mo + 8) = some (eI 10 (fun ii => iI ((od ii : Nat) : Int)))) → (wi (mo + 9) = some (eI 1210 (fun ii => iI (si ii)))) → (wi (mo + 10) = some (eI 1210 (fun ii => iI (ei ii)))) → (∀ k, k < 10 ∨ 12 ≤ k → rgi k = rg k) → (∀ a p, p < D.length → a < i → si (121 * a + p) = mSc (elN (lg l (o a)) D thr p) ∧ (elN (lg l (o a)) D thr p ≠ -1005 → ei (121 * a + p) = gE p (bA (lg l (o a)) D p) - (p : Int))) → (off2 w wi mo (mo + 1) (mo + 7) (mo + 11)) → Wp S 2 [(1, .int (iI (((i : Nat) : Int)))), (0, .ref mo)] [] wi n 0 0 := by
    intro d
    induction d using Nat.strongRecOn with
    | _ d ih_lp =>
      intro i wi rgi li si ei hd_lp hi mc vc lc oc xc ec hF hq hO
      refine r_iload_n hb 3 dX9_findScores_2 rfl 0 rfl ?_
      refine r_aload_n hb 4 dX9_findScores_3 rfl 1 rfl ?_
      refine r_get hb ho 7 dX9_findScores_4 rfl lk_X9_141 pf_X9_16 mc rfl ?_
      refine r_topv (.int (iI (((c : Nat) : Int)))) (congrArg (fun z => Value.int (iI z)) ((hF 16 (by omega)).trans h16)) ?_
      refine r_icmp_ge hb 10 103 dX9_findScores_7 rfl (by decide) (by omega) (by omega) (fun c7 => ?_) (fun c7 => ?_)
      · refine r_vret hS dX9_findScores_103 rfl (Nat.zero_le _) (Nat.zero_le _) ?_
        have eic : i = c := by omega
        subst eic
        exact ⟨rfl, rfl, ⟨rgi, li, si, ei, mc, hF, lc, oc, xc, ec, hq⟩, hO⟩
      · have hoi := hoo i (by omega)
        have hx : nOk (lg l (o i)) := (hok.2.2.2.1 (o i) hoi.2).1
        refine r_iconst hb 11 dX9_findScores_10 rfl ?_
        refine r_istore_n [(2, .int (iI 0)), (1, .int (iI (((i : Nat) : Int)))), (0, .ref mo)] hb 12 4 dX9_findScores_11 rfl rfl hnL (by decide) rfl ?_
        have ls : ∀ (d : Nat) (s : Nat) (wi : PW) (rgi : Nat → Int) (li : Nat → Nat) (si ei : Nat → Int), D.length - s = d → (s ≤ D.length) → (wi mo = some (eO 9 [.ref (mo + 1), .ref (mo + 2), .ref (mo + 3), .int (iI ((rgi 3))), .ref (mo + 4), .ref (mo + 5), .int (iI ((rgi 6))), .ref (mo + 6), .int (iI ((rgi 8))), .ref (mo + 7), .int (iI ((rgi 10))), .int (iI ((rgi 11))), .int (iI ((rgi 12))), .int (iI ((rgi 13))), .int (iI ((rgi 14))), .ref (mo + 8), .int (iI ((rgi 16))), .ref (mo + 9), .ref (mo + 10), .ref (mo + 11)])) → (wi (mo + 1) = some (eI 483 g)) → (wi (mo + 7) = some (eI 17 (fun ii => iI ((li ii : Nat) : Int)))) → (wi (mo + 8) = some (eI 10 (fun ii => iI ((od ii : Nat) : Int)))) → (wi (mo + 9) = some (eI 1210 (fun ii => iI (si ii)))) → (wi (mo + 10) = some (eI 1210 (fun ii => iI (ei ii)))) → (∀ k, k < 10 ∨ 12 ≤ k → rgi k = rg k) → (∀ a p, p < D.length → (a < i ∨ (a = i ∧ p < s)) → si (121 * a + p) = mSc (elN (lg l (o a)) D thr p) ∧ (elN (lg l (o a)) D thr p ≠ -1005 → ei (121 * a + p) = gE p (bA (lg l (o a)) D p) - (p : Int))) → (off2 w wi mo (mo + 1) (mo + 7) (mo + 11)) → Wp S 12 [(2, .int (iI (((s : Nat) : Int)))), (1, .int (iI (((i : Nat) : Int)))), (0, .ref mo)] [] wi n 0 0 := by
          intro d
          induction d using Nat.strongRecOn with
          | _ d ih_ls =>
            intro s wi rgi li si ei hd_ls hs mc vc lc oc xc ec hF hq hO
            refine r_iload_n hb 13 dX9_findScores_12 rfl 0 rfl ?_
            refine r_aload_n hb 14 dX9_findScores_13 rfl 2 rfl ?_
            refine r_get hb ho 17 dX9_findScores_14 rfl lk_X9_7 pf_X9_0 mc rfl ?_
            refine r_iconst hb 18 dX9_findScores_17 rfl ?_
            refine r_iald hb 19 dX9_findScores_18 rfl vc 0 (by omega) (⟨by omega, by omega⟩) ?_
            refine r_topz ((((D).length : Nat) : Int)) (hD.1) ?_
            refine r_icmp_ge hb 22 97 dX9_findScores_19 rfl (by decide) (by omega) (by omega) (fun c19 => ?_) (fun c19 => ?_)
            · refine r_iinc [(1, .int (iI (((i : Nat) : Int) + 1))), (2, .int (iI (((s : Nat) : Int)))), (0, .ref mo)] hb 100 4 1 dX9_findScores_97 rfl rfl hnL (by decide) (((i : Nat) : Int) + 1) (by omega) rfl ?_
              refine r_goto hb 2 dX9_findScores_100 (by decide) ?_
              refine r_lv [(1, .int (iI (((i + 1 : Nat) : Int)))), (0, .ref mo)] [0, 2] rfl ?_
              exact ih_lp (c - (i + 1)) (by omega) (i + 1) _ rgi li si ei rfl (by omega) mc vc lc oc xc ec hF (fun a p hp ha => hq a p hp (by omega)) hO
            · refine r_aload_n hb 23 dX9_findScores_22 rfl 2 rfl ?_
              refine r_aload_n hb 24 dX9_findScores_23 rfl 2 rfl ?_
              refine r_get hb ho 27 dX9_findScores_24 rfl lk_X9_36 pf_X9_15 mc rfl ?_
              refine r_iload_n hb 28 dX9_findScores_27 rfl 1 rfl ?_
              refine r_ialdN hb 29 dX9_findScores_28 rfl oc i (by omega) (⟨by omega, by omega⟩) ?_
              refine r_topv (.int (iI (((o i : Nat) : Int)))) (by rw [hoi.1]) ?_
              refine r_iload_n hb 30 dX9_findScores_29 rfl 0 rfl ?_
              refine r_callV1 (st := []) hb ho 33 dX9_findScores_30 rfl ck_X9_121 (c_X9_bestAt mo rgi g li D (o i) (lg l (o i)) s mc vc lc hD (hP.2.2.2.2 (o i) hoi.2) (by omega) (by omega) hx) rfl rfl (mc) rfl rfl (by rw [hR0]; exact ⟨Nat.le_of_ble_eq_true rfl, Nat.le_of_ble_eq_true rfl⟩) (Nat.le_of_ble_eq_true rfl) ⟨rfl, rfl⟩ (by rw [hR0]; exact Nat.zero_le _) (by rw [hR0]; exact Nat.zero_le _) (fun vw_30 w_30 nw_30 qw_30 => ?_)
              obtain ⟨rfl, rfl, ⟨rgj, mc, hF2, hT⟩, ⟨lj, lc⟩, ow_30⟩ := qw_30
              have vc : w_30 (mo + 1) = some (eI 483 g) := (ow_30 _ (by omega) (by omega)).trans vc
              have oc : w_30 (mo + 8) = some (eI 10 (fun ii => iI ((od ii : Nat) : Int))) := (ow_30 _ (by omega) (by omega)).trans oc
              have xc : w_30 (mo + 9) = some (eI 1210 (fun ii => iI (si ii))) := (ow_30 _ (by omega) (by omega)).trans xc
              have ec : w_30 (mo + 10) = some (eI 1210 (fun ii => iI (ei ii))) := (ow_30 _ (by omega) (by omega)).trans ec
              refine r_ifb_eq hb 36 51 dX9_findScores_33 rfl (by decide) (fun c33 => ?_) (fun c33 => ?_)
              · refine r_iconst hb 52 dX9_findScores_51 rfl ?_
                refine r_istore_n [(3, .int (iI 0)), (2, .int (iI (((s : Nat) : Int)))), (1, .int (iI (((i : Nat) : Int)))), (0, .ref mo)] hb 53 4 dX9_findScores_52 rfl rfl hnL (by decide) rfl ?_
                refine r_aload_n hb 54 dX9_findScores_53 rfl 3 rfl ?_
                refine r_get hb ho 57 dX9_findScores_54 rfl lk_X9_39 pf_X9_17 mc rfl ?_
                refine r_bipush 121 hb 59 dX9_findScores_57 rfl rfl ?_
                refine r_iload_n hb 60 dX9_findScores_59 rfl 2 rfl ?_
                refine r_imulZ hb 61 (121 * ((i : Nat) : Int)) dX9_findScores_60 rfl (by omega) ?_
                refine r_iload_n hb 62 dX9_findScores_61 rfl 1 rfl ?_
                refine r_iaddZ hb 63 (121 * ((i : Nat) : Int) + ((s : Nat) : Int)) dX9_findScores_62 rfl (by omega) ?_
                refine r_iload_n hb 64 dX9_findScores_63 rfl 0 rfl ?_
                refine r_if_eq hb 67 74 dX9_findScores_64 rfl (by decide) (by omega) (fun c64 => ?_) (fun c64 => ?_)
                · refine r_iconst hb 75 dX9_findScores_74 rfl ?_
                  refine r_iastZ hb 76 dX9_findScores_75 rfl xc (121 * i + s) (by omega) (⟨by omega, by omega⟩) (fun w_75 hw_75 => ?_)
                  have ow_75 := pset_off hw_75
                  have xw_75 : w_75 (mo + 9) = some (eI 1210 (fun ii => iI ((updZ si (121 * i + s) (-1)) ii))) := by rw [hw_75]; exact pset_eq _ _ _
                  have mc : w_75 mo = some (eO 9 [.ref (mo + 1), .ref (mo + 2), .ref (mo + 3), .int (iI ((rgj 3))), .ref (mo + 4), .ref (mo + 5), .int (iI ((rgj 6))), .ref (mo + 6), .int (iI ((rgj 8))), .ref (mo + 7), .int (iI ((rgj 10))), .int (iI ((rgj 11))), .int (iI ((rgj 12))), .int (iI ((rgj 13))), .int (iI ((rgj 14))), .ref (mo + 8), .int (iI ((rgj 16))), .ref (mo + 9), .ref (mo + 10), .ref (mo + 11)]) := (ow_75 _ (by omega)).trans mc
                  have lc : w_75 (mo + 7) = some (eI 17 (fun ii => iI ((lj ii : Nat) : Int))) := (ow_75 _ (by omega)).trans lc
                  have vc : w_75 (mo + 1) = some (eI 483 g) := (ow_75 _ (by omega)).trans vc
                  have oc : w_75 (mo + 8) = some (eI 10 (fun ii => iI ((od ii : Nat) : Int))) := (ow_75 _ (by omega)).trans oc
                  have ec : w_75 (mo + 10) = some (eI 1210 (fun ii => iI (ei ii))) := (ow_75 _ (by omega)).trans ec
                  refine r_aload_n hb 77 dX9_findScores_76 rfl 3 rfl ?_
                  refine r_get hb ho 80 dX9_findScores_77 rfl lk_X9_42 pf_X9_18 mc rfl ?_
                  refine r_bipush 121 hb 82 dX9_findScores_80 rfl rfl ?_
                  refine r_iload_n hb 83 dX9_findScores_82 rfl 2 rfl ?_
                  refine r_imulZ hb 84 (121 * ((i : Nat) : Int)) dX9_findScores_83 rfl (by omega) ?_
                  refine r_iload_n hb 85 dX9_findScores_84 rfl 1 rfl ?_
                  refine r_iaddZ hb 86 (121 * ((i : Nat) : Int) + ((s : Nat) : Int)) dX9_findScores_85 rfl (by omega) ?_
                  refine r_aload_n hb 87 dX9_findScores_86 rfl 3 rfl ?_
                  refine r_get hb ho 90 dX9_findScores_87 rfl lk_X9_118 pf_X9_11 mc rfl ?_
                  refine r_iastZ hb 91 dX9_findScores_90 rfl ec (121 * i + s) (by omega) (⟨by omega, by omega⟩) (fun w_90 hw_90 => ?_)
                  have ow_90 := pset_off hw_90
                  have xw_90 : w_90 (mo + 10) = some (eI 1210 (fun ii => iI ((updZ ei (121 * i + s) ((rgj 11))) ii))) := by rw [hw_90]; exact pset_eq _ _ _
                  have xw_75 : w_90 (mo + 9) = some (eI 1210 (fun ii => iI ((updZ si (121 * i + s) (-1)) ii))) := (ow_90 _ (by omega)).trans xw_75
                  have mc : w_90 mo = some (eO 9 [.ref (mo + 1), .ref (mo + 2), .ref (mo + 3), .int (iI ((rgj 3))), .ref (mo + 4), .ref (mo + 5), .int (iI ((rgj 6))), .ref (mo + 6), .int (iI ((rgj 8))), .ref (mo + 7), .int (iI ((rgj 10))), .int (iI ((rgj 11))), .int (iI ((rgj 12))), .int (iI ((rgj 13))), .int (iI ((rgj 14))), .ref (mo + 8), .int (iI ((rgj 16))), .ref (mo + 9), .ref (mo + 10), .ref (mo + 11)]) := (ow_90 _ (by omega)).trans mc
                  have lc : w_90 (mo + 7) = some (eI 17 (fun ii => iI ((lj ii : Nat) : Int))) := (ow_90 _ (by omega)).trans lc
                  have vc : w_90 (mo + 1) = some (eI 483 g) := (ow_90 _ (by omega)).trans vc
                  have oc : w_90 (mo + 8) = some (eI 10 (fun ii => iI ((od ii : Nat) : Int))) := (ow_90 _ (by omega)).trans oc
                  refine r_iinc [(2, .int (iI (((s : Nat) : Int) + 1))), (3, .int (iI 0)), (1, .int (iI (((i : Nat) : Int)))), (0, .ref mo)] hb 94 4 1 dX9_findScores_91 rfl rfl hnL (by decide) (((s : Nat) : Int) + 1) (by omega) rfl ?_
                  refine r_goto hb 12 dX9_findScores_94 (by decide) ?_
                  have hn : bA (lg l (o i)) D s = none := by cases h : bA (lg l (o i)) D s with
                    | none => rfl
                    | some p => rw [h] at c33; simp at c33
                  have hel : elN (lg l (o i)) D thr s = -1005 := by unfold elN; rw [hn]; exact if_pos (by show (-1005 : Int) < thr; omega)
                  refine r_lv [(2, .int (iI (((s + 1 : Nat) : Int)))), (1, .int (iI (((i : Nat) : Int)))), (0, .ref mo)] [0, 2, 3] rfl ?_
                  refine ih_ls (D.length - (s + 1)) (by omega) (s + 1) _ rgj lj _ _ rfl (by omega) mc vc lc oc xw_75 xw_90 (fun k hk => (hF2 k hk).trans (hF k hk)) ?_ (((hO.trans (off2.mono ow_30 (by omega) (by omega) (by omega) (by omega))).trans (off_r ow_75 (by omega) (by omega) _ _)).trans (off_r ow_90 (by omega) (by omega) _ _))
                  intro a p hp hap
                  by_cases e : a = i ∧ p = s
                  · obtain ⟨e1, e2⟩ := e
                    subst e1; subst e2
                    rw [updZ_s, updZ_s, hel]
                    exact ⟨rfl, fun h => absurd rfl h⟩
                  · have hne : 121 * a + p ≠ 121 * i + s := by omega
                    rw [updZ_n _ _ hne, updZ_n _ _ hne]
                    exact hq a p hp (by omega)
                · exfalso; omega
              · have htt : -700 ≤ rgj 10 ∧ rgj 10 ≤ 108 := by
                  obtain ⟨p1, hp1⟩ := Option.isSome_iff_exists.mp c33
                  have t1 := (hT p1 hp1).1
                  have hpb := bA_bd hx D (by omega) hp1
                  omega
                have hrt0 : rgj 6 = thr := (hF2 6 (by omega)).trans ((hF 6 (by omega)).trans h6)
                refine r_aload_n hb 37 dX9_findScores_36 rfl 2 rfl ?_
                refine r_get hb ho 40 dX9_findScores_37 rfl lk_X9_115 pf_X9_10 mc rfl ?_
                refine r_aload_n hb 41 dX9_findScores_40 rfl 2 rfl ?_
                refine r_get hb ho 44 dX9_findScores_41 rfl lk_X9_26 pf_X9_6 mc rfl ?_
                refine r_icmp_lt hb 47 51 dX9_findScores_44 rfl (by decide) (by omega) (by omega) (fun c44 => ?_) (fun c44 => ?_)
                · refine r_iconst hb 52 dX9_findScores_51 rfl ?_
                  refine r_istore_n [(3, .int (iI 0)), (2, .int (iI (((s : Nat) : Int)))), (1, .int (iI (((i : Nat) : Int)))), (0, .ref mo)] hb 53 4 dX9_findScores_52 rfl rfl hnL (by decide) rfl ?_
                  refine r_aload_n hb 54 dX9_findScores_53 rfl 3 rfl ?_
                  refine r_get hb ho 57 dX9_findScores_54 rfl lk_X9_39 pf_X9_17 mc rfl ?_
                  refine r_bipush 121 hb 59 dX9_findScores_57 rfl rfl ?_
                  refine r_iload_n hb 60 dX9_findScores_59 rfl 2 rfl ?_
                  refine r_imulZ hb 61 (121 * ((i : Nat) : Int)) dX9_findScores_60 rfl (by omega) ?_
                  refine r_iload_n hb 62 dX9_findScores_61 rfl 1 rfl ?_
                  refine r_iaddZ hb 63 (121 * ((i : Nat) : Int) + ((s : Nat) : Int)) dX9_findScores_62 rfl (by omega) ?_
                  refine r_iload_n hb 64 dX9_findScores_63 rfl 0 rfl ?_
                  refine r_if_eq hb 67 74 dX9_findScores_64 rfl (by decide) (by omega) (fun c64 => ?_) (fun c64 => ?_)
                  · refine r_iconst hb 75 dX9_findScores_74 rfl ?_
                    refine r_iastZ hb 76 dX9_findScores_75 rfl xc (121 * i + s) (by omega) (⟨by omega, by omega⟩) (fun w_75 hw_75 => ?_)
                    have ow_75 := pset_off hw_75
                    have xw_75 : w_75 (mo + 9) = some (eI 1210 (fun ii => iI ((updZ si (121 * i + s) (-1)) ii))) := by rw [hw_75]; exact pset_eq _ _ _
                    have mc : w_75 mo = some (eO 9 [.ref (mo + 1), .ref (mo + 2), .ref (mo + 3), .int (iI ((rgj 3))), .ref (mo + 4), .ref (mo + 5), .int (iI ((rgj 6))), .ref (mo + 6), .int (iI ((rgj 8))), .ref (mo + 7), .int (iI ((rgj 10))), .int (iI ((rgj 11))), .int (iI ((rgj 12))), .int (iI ((rgj 13))), .int (iI ((rgj 14))), .ref (mo + 8), .int (iI ((rgj 16))), .ref (mo + 9), .ref (mo + 10), .ref (mo + 11)]) := (ow_75 _ (by omega)).trans mc
                    have lc : w_75 (mo + 7) = some (eI 17 (fun ii => iI ((lj ii : Nat) : Int))) := (ow_75 _ (by omega)).trans lc
                    have vc : w_75 (mo + 1) = some (eI 483 g) := (ow_75 _ (by omega)).trans vc
                    have oc : w_75 (mo + 8) = some (eI 10 (fun ii => iI ((od ii : Nat) : Int))) := (ow_75 _ (by omega)).trans oc
                    have ec : w_75 (mo + 10) = some (eI 1210 (fun ii => iI (ei ii))) := (ow_75 _ (by omega)).trans ec
                    refine r_aload_n hb 77 dX9_findScores_76 rfl 3 rfl ?_
                    refine r_get hb ho 80 dX9_findScores_77 rfl lk_X9_42 pf_X9_18 mc rfl ?_
                    refine r_bipush 121 hb 82 dX9_findScores_80 rfl rfl ?_
                    refine r_iload_n hb 83 dX9_findScores_82 rfl 2 rfl ?_
                    refine r_imulZ hb 84 (121 * ((i : Nat) : Int)) dX9_findScores_83 rfl (by omega) ?_
                    refine r_iload_n hb 85 dX9_findScores_84 rfl 1 rfl ?_
                    refine r_iaddZ hb 86 (121 * ((i : Nat) : Int) + ((s : Nat) : Int)) dX9_findScores_85 rfl (by omega) ?_
                    refine r_aload_n hb 87 dX9_findScores_86 rfl 3 rfl ?_
                    refine r_get hb ho 90 dX9_findScores_87 rfl lk_X9_118 pf_X9_11 mc rfl ?_
                    refine r_iastZ hb 91 dX9_findScores_90 rfl ec (121 * i + s) (by omega) (⟨by omega, by omega⟩) (fun w_90 hw_90 => ?_)
                    have ow_90 := pset_off hw_90
                    have xw_90 : w_90 (mo + 10) = some (eI 1210 (fun ii => iI ((updZ ei (121 * i + s) ((rgj 11))) ii))) := by rw [hw_90]; exact pset_eq _ _ _
                    have xw_75 : w_90 (mo + 9) = some (eI 1210 (fun ii => iI ((updZ si (121 * i + s) (-1)) ii))) := (ow_90 _ (by omega)).trans xw_75
                    have mc : w_90 mo = some (eO 9 [.ref (mo + 1), .ref (mo + 2), .ref (mo + 3), .int (iI ((rgj 3))), .ref (mo + 4), .ref (mo + 5), .int (iI ((rgj 6))), .ref (mo + 6), .int (iI ((rgj 8))), .ref (mo + 7), .int (iI ((rgj 10))), .int (iI ((rgj 11))), .int (iI ((rgj 12))), .int (iI ((rgj 13))), .int (iI ((rgj 14))), .ref (mo + 8), .int (iI ((rgj 16))), .ref (mo + 9), .ref (mo + 10), .ref (mo + 11)]) := (ow_90 _ (by omega)).trans mc
                    have lc : w_90 (mo + 7) = some (eI 17 (fun ii => iI ((lj ii : Nat) : Int))) := (ow_90 _ (by omega)).trans lc
                    have vc : w_90 (mo + 1) = some (eI 483 g) := (ow_90 _ (by omega)).trans vc
                    have oc : w_90 (mo + 8) = some (eI 10 (fun ii => iI ((od ii : Nat) : Int))) := (ow_90 _ (by omega)).trans oc
                    refine r_iinc [(2, .int (iI (((s : Nat) : Int) + 1))), (3, .int (iI 0)), (1, .int (iI (((i : Nat) : Int)))), (0, .ref mo)] hb 94 4 1 dX9_findScores_91 rfl rfl hnL (by decide) (((s : Nat) : Int) + 1) (by omega) rfl ?_
                    refine r_goto hb 12 dX9_findScores_94 (by decide) ?_
                    obtain ⟨p1, hp1⟩ := Option.isSome_iff_exists.mp c33
                    obtain ⟨t1, t2⟩ := hT p1 hp1
                    have hpb := bA_bd hx D (by omega) hp1
                    have hrt : rgj 6 = thr := (hF2 6 (by omega)).trans ((hF 6 (by omega)).trans h6)
                    have hel : elN (lg l (o i)) D thr s = -1005 := by unfold elN; rw [hp1]; show (if p1.1 < thr then (-1005 : Int) else p1.1) = _; exact if_pos (by omega)
                    refine r_lv [(2, .int (iI (((s + 1 : Nat) : Int)))), (1, .int (iI (((i : Nat) : Int)))), (0, .ref mo)] [0, 2, 3] rfl ?_
                    refine ih_ls (D.length - (s + 1)) (by omega) (s + 1) _ rgj lj _ _ rfl (by omega) mc vc lc oc xw_75 xw_90 (fun k hk => (hF2 k hk).trans (hF k hk)) ?_ (((hO.trans (off2.mono ow_30 (by omega) (by omega) (by omega) (by omega))).trans (off_r ow_75 (by omega) (by omega) _ _)).trans (off_r ow_90 (by omega) (by omega) _ _))
                    intro a p hp hap
                    by_cases e : a = i ∧ p = s
                    · obtain ⟨e1, e2⟩ := e
                      subst e1; subst e2
                      rw [updZ_s, updZ_s, hel]
                      exact ⟨rfl, fun h => absurd rfl h⟩
                    · have hne : 121 * a + p ≠ 121 * i + s := by omega
                      rw [updZ_n _ _ hne, updZ_n _ _ hne]
                      exact hq a p hp (by omega)
                  · exfalso; omega
                · refine r_iconst hb 48 dX9_findScores_47 rfl ?_
                  refine r_goto hb 52 dX9_findScores_48 (by decide) ?_
                  refine r_istore_n [(3, .int (iI 1)), (2, .int (iI (((s : Nat) : Int)))), (1, .int (iI (((i : Nat) : Int)))), (0, .ref mo)] hb 53 4 dX9_findScores_52 rfl rfl hnL (by decide) rfl ?_
                  refine r_aload_n hb 54 dX9_findScores_53 rfl 3 rfl ?_
                  refine r_get hb ho 57 dX9_findScores_54 rfl lk_X9_39 pf_X9_17 mc rfl ?_
                  refine r_bipush 121 hb 59 dX9_findScores_57 rfl rfl ?_
                  refine r_iload_n hb 60 dX9_findScores_59 rfl 2 rfl ?_
                  refine r_imulZ hb 61 (121 * ((i : Nat) : Int)) dX9_findScores_60 rfl (by omega) ?_
                  refine r_iload_n hb 62 dX9_findScores_61 rfl 1 rfl ?_
                  refine r_iaddZ hb 63 (121 * ((i : Nat) : Int) + ((s : Nat) : Int)) dX9_findScores_62 rfl (by omega) ?_
                  refine r_iload_n hb 64 dX9_findScores_63 rfl 0 rfl ?_
                  refine r_if_eq hb 67 74 dX9_findScores_64 rfl (by decide) (by omega) (fun c64 => ?_) (fun c64 => ?_)
                  · exfalso; omega
                  · refine r_aload_n hb 68 dX9_findScores_67 rfl 3 rfl ?_
                    refine r_get hb ho 71 dX9_findScores_68 rfl lk_X9_115 pf_X9_10 mc rfl ?_
                    refine r_goto hb 75 dX9_findScores_71 (by decide) ?_
                    refine r_iastZ hb 76 dX9_findScores_75 rfl xc (121 * i + s) (by omega) (⟨by omega, by omega⟩) (fun w_75 hw_75 => ?_)
                    have ow_75 := pset_off hw_75
                    have xw_75 : w_75 (mo + 9) = some (eI 1210 (fun ii => iI ((updZ si (121 * i + s) ((rgj 10))) ii))) := by rw [hw_75]; exact pset_eq _ _ _
                    have mc : w_75 mo = some (eO 9 [.ref (mo + 1), .ref (mo + 2), .ref (mo + 3), .int (iI ((rgj 3))), .ref (mo + 4), .ref (mo + 5), .int (iI ((rgj 6))), .ref (mo + 6), .int (iI ((rgj 8))), .ref (mo + 7), .int (iI ((rgj 10))), .int (iI ((rgj 11))), .int (iI ((rgj 12))), .int (iI ((rgj 13))), .int (iI ((rgj 14))), .ref (mo + 8), .int (iI ((rgj 16))), .ref (mo + 9), .ref (mo + 10), .ref (mo + 11)]) := (ow_75 _ (by omega)).trans mc
                    have lc : w_75 (mo + 7) = some (eI 17 (fun ii => iI ((lj ii : Nat) : Int))) := (ow_75 _ (by omega)).trans lc
                    have vc : w_75 (mo + 1) = some (eI 483 g) := (ow_75 _ (by omega)).trans vc
                    have oc : w_75 (mo + 8) = some (eI 10 (fun ii => iI ((od ii : Nat) : Int))) := (ow_75 _ (by omega)).trans oc
                    have ec : w_75 (mo + 10) = some (eI 1210 (fun ii => iI (ei ii))) := (ow_75 _ (by omega)).trans ec
                    refine r_aload_n hb 77 dX9_findScores_76 rfl 3 rfl ?_
                    refine r_get hb ho 80 dX9_findScores_77 rfl lk_X9_42 pf_X9_18 mc rfl ?_
                    refine r_bipush 121 hb 82 dX9_findScores_80 rfl rfl ?_
                    refine r_iload_n hb 83 dX9_findScores_82 rfl 2 rfl ?_
                    refine r_imulZ hb 84 (121 * ((i : Nat) : Int)) dX9_findScores_83 rfl (by omega) ?_
                    refine r_iload_n hb 85 dX9_findScores_84 rfl 1 rfl ?_
                    refine r_iaddZ hb 86 (121 * ((i : Nat) : Int) + ((s : Nat) : Int)) dX9_findScores_85 rfl (by omega) ?_
                    refine r_aload_n hb 87 dX9_findScores_86 rfl 3 rfl ?_
                    refine r_get hb ho 90 dX9_findScores_87 rfl lk_X9_118 pf_X9_11 mc rfl ?_
                    refine r_iastZ hb 91 dX9_findScores_90 rfl ec (121 * i + s) (by omega) (⟨by omega, by omega⟩) (fun w_90 hw_90 => ?_)
                    have ow_90 := pset_off hw_90
                    have xw_90 : w_90 (mo + 10) = some (eI 1210 (fun ii => iI ((updZ ei (121 * i + s) ((rgj 11))) ii))) := by rw [hw_90]; exact pset_eq _ _ _
                    have xw_75 : w_90 (mo + 9) = some (eI 1210 (fun ii => iI ((updZ si (121 * i + s) ((rgj 10))) ii))) := (ow_90 _ (by omega)).trans xw_75
                    have mc : w_90 mo = some (eO 9 [.ref (mo + 1), .ref (mo + 2), .ref (mo + 3), .int (iI ((rgj 3))), .ref (mo + 4), .ref (mo + 5), .int (iI ((rgj 6))), .ref (mo + 6), .int (iI ((rgj 8))), .ref (mo + 7), .int (iI ((rgj 10))), .int (iI ((rgj 11))), .int (iI ((rgj 12))), .int (iI ((rgj 13))), .int (iI ((rgj 14))), .ref (mo + 8), .int (iI ((rgj 16))), .ref (mo + 9), .ref (mo + 10), .ref (mo + 11)]) := (ow_90 _ (by omega)).trans mc
                    have lc : w_90 (mo + 7) = some (eI 17 (fun ii => iI ((lj ii : Nat) : Int))) := (ow_90 _ (by omega)).trans lc
                    have vc : w_90 (mo + 1) = some (eI 483 g) := (ow_90 _ (by omega)).trans vc
                    have oc : w_90 (mo + 8) = some (eI 10 (fun ii => iI ((od ii : Nat) : Int))) := (ow_90 _ (by omega)).trans oc
                    refine r_iinc [(2, .int (iI (((s : Nat) : Int) + 1))), (3, .int (iI 1)), (1, .int (iI (((i : Nat) : Int)))), (0, .ref mo)] hb 94 4 1 dX9_findScores_91 rfl rfl hnL (by decide) (((s : Nat) : Int) + 1) (by omega) rfl ?_
                    refine r_goto hb 12 dX9_findScores_94 (by decide) ?_
                    obtain ⟨p1, hp1⟩ := Option.isSome_iff_exists.mp c33
                    obtain ⟨t1, t2⟩ := hT p1 hp1
                    have hpb := bA_bd hx D (by omega) hp1
                    have hrt : rgj 6 = thr := (hF2 6 (by omega)).trans ((hF 6 (by omega)).trans h6)
                    have hel : elN (lg l (o i)) D thr s = p1.1 := by unfold elN; rw [hp1]; show (if p1.1 < thr then (-1005 : Int) else p1.1) = _; exact if_neg (by omega)
                    refine r_lv [(2, .int (iI (((s + 1 : Nat) : Int)))), (1, .int (iI (((i : Nat) : Int)))), (0, .ref mo)] [0, 2, 3] rfl ?_
                    refine ih_ls (D.length - (s + 1)) (by omega) (s + 1) _ rgj lj _ _ rfl (by omega) mc vc lc oc xw_75 xw_90 (fun k hk => (hF2 k hk).trans (hF k hk)) ?_ (((hO.trans (off2.mono ow_30 (by omega) (by omega) (by omega) (by omega))).trans (off_r ow_75 (by omega) (by omega) _ _)).trans (off_r ow_90 (by omega) (by omega) _ _))
                    intro a p hp hap
                    by_cases e : a = i ∧ p = s
                    · obtain ⟨e1, e2⟩ := e
                      subst e1; subst e2
                      rw [updZ_s, updZ_s, hel]
                      refine ⟨?_, fun _ => ?_⟩
                      · unfold mSc; rw [if_neg (by omega), t1]
                      · rw [t2, hp1]; show ((p1.2 : Nat) : Int) = ((p + p1.2 : Nat) : Int) - (p : Int); omega
                    · have hne : 121 * a + p ≠ 121 * i + s := by omega
                      rw [updZ_n _ _ hne, updZ_n _ _ hne]
                      exact hq a p hp (by omega)
        refine r_lv [(2, .int (iI (((0 : Nat) : Int)))), (1, .int (iI (((i : Nat) : Int)))), (0, .ref mo)] [0, 1, 2] rfl ?_
        exact ls _ 0 _ rgi li si ei rfl (Nat.zero_le _) mc vc lc oc xc ec hF (fun a p hp ha => hq a p hp (by omega)) hO
  refine r_lv [(1, .int (iI (((0 : Nat) : Int)))), (0, .ref mo)] [0, 1] rfl ?_
  exact lp _ 0 _ rg ln sco leo rfl (Nat.zero_le _) mc vc lc oc xc ec (fun k _ => rfl) (fun a p hp ha => absurd ha (Nat.not_lt_zero _)) (off2.rfl' _ _ _ _ _)
