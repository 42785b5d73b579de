abbrev rm_X0_sumFrom : Room := { frames := 0, cells := 0, slots := 0, locals := 0 }
set_option maxHeartbeats 4000000 in
set_option maxRecDepth 100000 in
theorem c_X0_sumFrom (q sz : Nat) (sc en sm : Nat → Int) (p : Nat) {w : PW} {n : Nat} (hC : chp w q sz sc en sm) (hp : p ≤ 120) : CtR yX0_sumFrom cX0_sumFrom 2 (some .int) rm_X0_sumFrom [.ref q, .int (iI (((p : Nat) : Int)))] w n (.int (iI ((sm p)))) := by
  obtain ⟨cq, c1, c2, c3⟩ := id hC
  refine Ctr.of rfl (Nat.le_of_ble_eq_true rfl) fun S hS => ?_
  have hb : S.1.1 = cX0_sumFrom := by rw [hS]; rfl
  have ho : S.1.2.1 = RX0 := by rw [hS]; rfl
  have hnL : S.1.2.2.1 = 2 := by rw [hS]; rfl
  have hR0 : S.2.1 = rm_X0_sumFrom := by rw [hS]; rfl
  show Wp S 0 [(0, .ref q), (1, .int (iI (((p : Nat) : Int))))] [] w n 0 0
  refine r_iload_n hb 1 dX0_sumFrom_0 rfl 1 rfl ?_
  refine r_if_lt hb 4 22 dX0_sumFrom_1 rfl (by decide) (by omega) (fun c1 => ?_) (fun c1 => ?_)
  · exfalso; omega
  · refine r_iload_n hb 5 dX0_sumFrom_4 rfl 1 rfl ?_
    refine r_aload_n hb 6 dX0_sumFrom_5 rfl 0 rfl ?_
    refine r_get hb ho 9 dX0_sumFrom_6 rfl lk_X0_18 pf_X0_2 cq rfl ?_
    refine r_alen hb 10 dX0_sumFrom_9 rfl c3 (by decide) 121 rfl ?_
    refine r_icmp_ge hb 13 22 dX0_sumFrom_10 rfl (by decide) (by omega) (by omega) (fun c10 => ?_) (fun c10 => ?_)
    · exfalso; omega
    · refine r_aload_n hb 14 dX0_sumFrom_13 rfl 0 rfl ?_
      refine r_get hb ho 17 dX0_sumFrom_14 rfl lk_X0_18 pf_X0_2 cq rfl ?_
      refine r_iload_n hb 18 dX0_sumFrom_17 rfl 1 rfl ?_
      refine r_ialdZ hb 19 dX0_sumFrom_18 rfl c3 p (by omega) (⟨by omega, by omega⟩) ?_
      refine r_goto hb 23 dX0_sumFrom_19 (by decide) ?_
      refine r_iret hS dX0_sumFrom_23 rfl rfl (Nat.zero_le _) (Nat.zero_le _) ?_
      exact ⟨_, rfl, rfl, rfl, rfl⟩

abbrev rm_X0_endAt : Room := { frames := 0, cells := 0, slots := 0, locals := 0 }
set_option maxHeartbeats 4000000 in
set_option maxRecDepth 100000 in
theorem c_X0_endAt (q sz : Nat) (sc en sm : Nat → Int) (p : Nat) {w : PW} {n : Nat} (hC : chp w q sz sc en sm) (hp : p < 120) : CtR yX0_endAt cX0_endAt 2 (some .int) rm_X0_endAt [.ref q, .int (iI (((p : Nat) : Int)))] w n (.int (iI ((en p)))) := by
  obtain ⟨cq, c1, c2, c3⟩ := id hC
  refine Ctr.of rfl (Nat.le_of_ble_eq_true rfl) fun S hS => ?_
  have hb : S.1.1 = cX0_endAt := by rw [hS]; rfl
  have ho : S.1.2.1 = RX0 := by rw [hS]; rfl
  have hnL : S.1.2.2.1 = 2 := by rw [hS]; rfl
  have hR0 : S.2.1 = rm_X0_endAt := by rw [hS]; rfl
  show Wp S 0 [(0, .ref q), (1, .int (iI (((p : Nat) : Int))))] [] w n 0 0
  refine r_iload_n hb 1 dX0_endAt_0 rfl 1 rfl ?_
  refine r_if_lt hb 4 22 dX0_endAt_1 rfl (by decide) (by omega) (fun c1 => ?_) (fun c1 => ?_)
  · exfalso; omega
  · refine r_iload_n hb 5 dX0_endAt_4 rfl 1 rfl ?_
    refine r_aload_n hb 6 dX0_endAt_5 rfl 0 rfl ?_
    refine r_get hb ho 9 dX0_endAt_6 rfl lk_X0_15 pf_X0_1 cq rfl ?_
    refine r_alen hb 10 dX0_endAt_9 rfl c2 (by decide) 120 rfl ?_
    refine r_icmp_ge hb 13 22 dX0_endAt_10 rfl (by decide) (by omega) (by omega) (fun c10 => ?_) (fun c10 => ?_)
    · exfalso; omega
    · refine r_aload_n hb 14 dX0_endAt_13 rfl 0 rfl ?_
      refine r_get hb ho 17 dX0_endAt_14 rfl lk_X0_15 pf_X0_1 cq rfl ?_
      refine r_iload_n hb 18 dX0_endAt_17 rfl 1 rfl ?_
      refine r_ialdZ hb 19 dX0_endAt_18 rfl c2 p (by omega) (⟨by omega, by omega⟩) ?_
      refine r_goto hb 25 dX0_endAt_19 (by decide) ?_
      refine r_iret hS dX0_endAt_25 rfl rfl (Nat.zero_le _) (Nat.zero_le _) ?_
      exact ⟨_, rfl, rfl, rfl, rfl⟩

abbrev rm_X0_beNothing : Room := { frames := 0, cells := 0, slots := 0, locals := 0 }
set_option maxHeartbeats 4000000 in
set_option maxRecDepth 100000 in
theorem c_X0_beNothing (q sz : Nat) (sc en sm : Nat → Int) {w : PW} {n : Nat} (hC : chp w q sz sc en sm) : Ct0 yX0_beNothing cX0_beNothing 2 none rm_X0_beNothing [.ref q] w n (fun w1 n1 => n = n1 ∧ (∃ sm1, chp w1 q 0 sc en sm1 ∧ ∀ p, p ≤ 120 → sm1 p = 0) ∧ off w w1 q (q + 4)) := by
  obtain ⟨cq, c1, c2, c3⟩ := id hC
  refine Ctr.of rfl (Nat.le_of_ble_eq_true rfl) fun S hS => ?_
  have hb : S.1.1 = cX0_beNothing := by rw [hS]; rfl
  have ho : S.1.2.1 = RX0 := by rw [hS]; rfl
  have hnL : S.1.2.2.1 = 2 := by rw [hS]; rfl
  have hR0 : S.2.1 = rm_X0_beNothing := by rw [hS]; rfl
  show Wp S 0 [(0, .ref q)] [] w n 0 0
  refine r_aload_n hb 1 dX0_beNothing_0 rfl 0 rfl ?_
  refine r_iconst hb 2 dX0_beNothing_1 rfl ?_
  refine r_topz ((0 : Nat) : Int) rfl ?_
  refine r_put hb ho 5 dX0_beNothing_2 rfl lk_X0_33 pf_X0_3 cq (Nat.le_of_ble_eq_true rfl) ⟨rfl, rfl⟩ (fun w_2 hw_2 => ?_)
  have ow_2 := pset_off hw_2
  have xw_2 : w_2 q = some (eO 0 [.ref (q + 1), .ref (q + 2), .ref (q + 3), .int (iI (((0 : Nat) : Int)))]) := by rw [hw_2]; exact pset_eq _ _ _
  have c1 : w_2 (q + 1) = some (eI 120 (fun ii => iI (sc ii))) := (ow_2 _ (by omega)).trans c1
  have c2 : w_2 (q + 2) = some (eI 120 (fun ii => iI (en ii))) := (ow_2 _ (by omega)).trans c2
  have c3 : w_2 (q + 3) = some (eI 121 (fun ii => iI (sm ii))) := (ow_2 _ (by omega)).trans c3
  refine r_iconst hb 6 dX0_beNothing_5 rfl ?_
  refine r_istore_n [(1, .int (iI 0)), (0, .ref q)] hb 7 2 dX0_beNothing_6 rfl rfl hnL (by decide) rfl ?_
  have lp : ∀ (d : Nat) (i : Nat) (wi : PW) (mi : Nat → Int), 121 - i = d → (i ≤ 121) → (chp wi q 0 sc en mi) → (∀ p, p < i → mi p = 0) → (off w wi q (q + 4)) → Wp S 7 [(1, .int (iI (((i : Nat) : Int)))), (0, .ref q)] [] wi n 0 0 := by
    intro d
    induction d using Nat.strongRecOn with
    | _ d ih_lp =>
      intro i wi mi hd_lp hi hC hm hO
      obtain ⟨cq, c1, c2, c3⟩ := id hC
      refine r_iload_n hb 8 dX0_beNothing_7 rfl 0 rfl ?_
      refine r_aload_n hb 9 dX0_beNothing_8 rfl 1 rfl ?_
      refine r_get hb ho 12 dX0_beNothing_9 rfl lk_X0_18 pf_X0_2 cq rfl ?_
      refine r_alen hb 13 dX0_beNothing_12 rfl c3 (by decide) 121 rfl ?_
      refine r_icmp_ge hb 16 29 dX0_beNothing_13 rfl (by decide) (by omega) (by omega) (fun c13 => ?_) (fun c13 => ?_)
      · refine r_vret hS dX0_beNothing_29 rfl (Nat.zero_le _) (Nat.zero_le _) ?_
        exact ⟨rfl, rfl, ⟨mi, hC, fun p hp => hm p (by omega)⟩, hO⟩
      · refine r_aload_n hb 17 dX0_beNothing_16 rfl 1 rfl ?_
        refine r_get hb ho 20 dX0_beNothing_17 rfl lk_X0_18 pf_X0_2 cq rfl ?_
        refine r_iload_n hb 21 dX0_beNothing_20 rfl 0 rfl ?_
        refine r_iconst hb 22 dX0_beNothing_21 rfl ?_
        refine r_iastZ hb 23 dX0_beNothing_22 rfl c3 i (by omega) (⟨by omega, by omega⟩) (fun w_22 hw_22 => ?_)
        have ow_22 := pset_off hw_22
        have xw_22 : w_22 (q + 3) = some (eI 121 (fun ii => iI ((updZ mi i 0) ii))) := by rw [hw_22]; exact pset_eq _ _ _
        have cq : w_22 q = some (eO 0 [.ref (q + 1), .ref (q + 2), .ref (q + 3), .int (iI (((0 : Nat) : Int)))]) := (ow_22 _ (by omega)).trans cq
        have c1 : w_22 (q + 1) = some (eI 120 (fun ii => iI (sc ii))) := (ow_22 _ (by omega)).trans c1
        have c2 : w_22 (q + 2) = some (eI 120 (fun ii => iI (en ii))) := (ow_22 _ (by omega)).trans c2
        refine r_iinc [(1, .int (iI (((i : Nat) : Int) + 1))), (0, .ref q)] hb 26 2 0 dX0_beNothing_23 rfl rfl hnL (by decide) (((i : Nat) : Int) + 1) (by omega) rfl ?_
        refine r_goto hb 7 dX0_beNothing_26 (by decide) ?_
        refine r_lv [(1, .int (iI (((i + 1 : Nat)) : Int))), (0, .ref q)] [0, 1] rfl ?_
        refine ih_lp (121 - (i + 1)) (by omega) (i + 1) _ _ rfl (by omega) ⟨cq, c1, c2, xw_22⟩ ?_ (hO.trans (ow_22.mono (by omega) (by omega)))
        intro p hp
        by_cases e : p = i
        · subst e; exact updZ_s _ _ _
        · rw [updZ_n _ _ e]; exact hm p (by omega)
  refine r_lv [(1, .int (iI (((0 : Nat)) : Int))), (0, .ref q)] [0, 1] rfl ?_
  exact lp _ 0 _ sm rfl (Nat.zero_le _) ⟨xw_2, c1, c2, c3⟩ (fun p hp => absurd hp (Nat.not_lt_zero _)) (ow_2.mono (by omega) (by omega))

abbrev rm_X0_weigh : Room := { frames := 4, cells := 0, slots := 0, locals := 99 }
set_option maxHeartbeats 4000000 in
set_option maxRecDepth 100000 in
theorem c_X0_weigh (q sz : Nat) (sc en sm : Nat → Int) (a u f : Nat) (x : Nt) (D : List Int32) (thr b0 b1 b2 eh : Int) (r0 : Nat → Nat) {w : PW} {n : Nat} (hC : chp w q sz sc en sm) (hF : fd w f b0 b1 b2 eh) (hR : fr w f 0 r0) (hN : nt w a x) (hD : tx w u 120 D) (hx : nOk x) (hqf : q + 4 ≤ f ∨ f + 2 ≤ q) (hqa : q + 4 ≤ a ∨ a + 7 ≤ q) (hqu : q + 4 ≤ u ∨ u + 2 ≤ q) (hd1 : f + 2 ≤ a ∨ a + 7 ≤ f) (hd2 : f + 2 ≤ u ∨ u + 2 ≤ f) (ht : 0 ≤ thr ∧ thr ≤ 108) : Ct0 yX0_weigh cX0_weigh 7 none rm_X0_weigh [.ref q, .ref a, .ref u, .int (iI (thr)), .ref f] w n (fun w1 n1 => n = n1 ∧ (∃ sc1 en1, chp w1 q D.length sc1 en1 sm ∧ ∀ p, p < D.length → sc1 p = elN x D thr p ∧ en1 p = gE p (bA x D p)) ∧ (∃ eh1, fd w1 f b0 b1 b2 eh1) ∧ (∃ r, fr w1 f 0 r) ∧ off2 w w1 q (q + 4) f (f + 2)) := by
  obtain ⟨cq, c1, c2, c3⟩ := id hC
  have fc := hF
  have d0 := hD.1
  have d1 := hD.2.1
  refine Ctr.of rfl (Nat.le_of_ble_eq_true rfl) fun S hS => ?_
  have hb : S.1.1 = cX0_weigh := by rw [hS]; rfl
  have ho : S.1.2.1 = RX0 := by rw [hS]; rfl
  have hnL : S.1.2.2.1 = 7 := by rw [hS]; rfl
  have hR0 : S.2.1 = rm_X0_weigh := by rw [hS]; rfl
  show Wp S 0 [(0, .ref q), (1, .ref a), (2, .ref u), (3, .int (iI (thr))), (4, .ref f)] [] w n 0 0
  refine r_aload_n hb 1 dX0_weigh_0 rfl 0 rfl ?_
  refine r_aload_n hb 2 dX0_weigh_1 rfl 2 rfl ?_
  refine r_get hb ho 5 dX0_weigh_2 rfl lk_X0_21 pf_X7_1 d0 rfl ?_
  refine r_aload_n hb 6 dX0_weigh_5 rfl 0 rfl ?_
  refine r_get hb ho 9 dX0_weigh_6 rfl lk_X0_9 pf_X0_0 cq rfl ?_
  refine r_alen hb 10 dX0_weigh_9 rfl c1 (by decide) 120 rfl ?_
  refine r_aload_n hb 11 dX0_weigh_10 rfl 0 rfl ?_
  refine r_get hb ho 14 dX0_weigh_11 rfl lk_X0_15 pf_X0_1 cq rfl ?_
  refine r_alen hb 15 dX0_weigh_14 rfl c2 (by decide) 120 rfl ?_
  refine r_min hb ho 18 dX0_weigh_15 rfl ck_X0_27 (by rw [hR0]; exact Nat.le_of_ble_eq_true rfl) (by rw [hR0]; exact Nat.le_of_ble_eq_true rfl) (by rw [hR0]; exact Nat.zero_le _) (by rw [hR0]; exact Nat.zero_le _) (by omega) (by omega) 120 (by omega) ?_
  refine r_min hb ho 21 dX0_weigh_18 rfl ck_X0_27 (by rw [hR0]; exact Nat.le_of_ble_eq_true rfl) (by rw [hR0]; exact Nat.le_of_ble_eq_true rfl) (by rw [hR0]; exact Nat.zero_le _) (by rw [hR0]; exact Nat.zero_le _) (by omega) (by omega) (((D.length : Nat) : Int)) (by omega) ?_
  refine r_put hb ho 24 dX0_weigh_21 rfl lk_X0_33 pf_X0_3 cq (Nat.le_of_ble_eq_true rfl) ⟨rfl, rfl⟩ (fun w_21 hw_21 => ?_)
  have ow_21 := pset_off hw_21
  have xw_21 : w_21 q = some (eO 0 [.ref (q + 1), .ref (q + 2), .ref (q + 3), .int (iI (((D.length : Nat) : Int)))]) := by rw [hw_21]; exact pset_eq _ _ _
  have c1 : w_21 (q + 1) = some (eI 120 (fun ii => iI (sc ii))) := (ow_21 _ (by omega)).trans c1
  have c2 : w_21 (q + 2) = some (eI 120 (fun ii => iI (en ii))) := (ow_21 _ (by omega)).trans c2
  have c3 : w_21 (q + 3) = some (eI 121 (fun ii => iI (sm ii))) := (ow_21 _ (by omega)).trans c3
  have fc : w_21 f = some (eO 1 [.ref (f + 1), .int (iI (b0)), .int (iI (b1)), .int (iI (b2)), .int (iI (eh))]) := (ow_21 _ (by omega)).trans fc
  have hR : fr w_21 f 0 r0 := hR.off ow_21 (by omega)
  have hN : nt w_21 a x := hN.off ow_21 (by omega)
  have hD : tx w_21 u 120 D := hD.off ow_21 (by omega)
  have d0 : w_21 u = some (eO 7 [.ref (u + 1), .int (iI (((D.length : Nat) : Int)))]) := (ow_21 _ (by omega)).trans d0
  refine r_iconst hb 25 dX0_weigh_24 rfl ?_
  refine r_istore [(5, .int (iI 0)), (0, .ref q), (1, .ref a), (2, .ref u), (3, .int (iI (thr))), (4, .ref f)] hb 27 7 dX0_weigh_25 rfl hnL (by decide) rfl ?_
  have lp : ∀ (d : Nat) (s : Nat) (wi : PW) (si ei : Nat → Int) (eh : Int) (ri : Nat → Nat), D.length - s = d → (s ≤ D.length) → (chp wi q D.length si ei sm) → (∀ p, p < s → si p = elN x D thr p) → (∀ p, p < s → ei p = gE p (bA x D p)) → (fd wi f b0 b1 b2 eh) → (fr wi f 0 ri) → (nt wi a x) → (tx wi u 120 D) → (off2 w wi q (q + 4) f (f + 2)) → Wp S 27 [(5, .int (iI (((s : Nat) : Int)))), (0, .ref q), (1, .ref a), (2, .ref u), (3, .int (iI (thr))), (4, .ref f)] [] wi n 0 0 := by
    intro d
    induction d using Nat.strongRecOn with
    | _ d ih_lp =>
      intro s wi si ei eh ri hd_lp hs hC hs1 he1 fc hR hN hD hO
      obtain ⟨cq, c1, c2, c3⟩ := id hC
      have d0 := hD.1
      have hga := gI_bd hx D (s := s) (by omega)
      refine r_iload hb 29 dX0_weigh_27 rfl 0 rfl ?_
      refine r_aload_n hb 30 dX0_weigh_29 rfl 1 rfl ?_
      refine r_get hb ho 33 dX0_weigh_30 rfl lk_X0_33 pf_X0_3 cq rfl ?_
      refine r_icmp_ge hb 36 86 dX0_weigh_33 rfl (by decide) (by omega) (by omega) (fun c33 => ?_) (fun c33 => ?_)
      · refine r_vret hS dX0_weigh_86 rfl (Nat.zero_le _) (Nat.zero_le _) ?_
        have es : s = D.length := by omega
        subst es
        exact ⟨rfl, rfl, ⟨si, ei, hC, fun p hp => ⟨hs1 p hp, he1 p hp⟩⟩, ⟨_, fc⟩, ⟨_, hR⟩, hO⟩
      · refine r_aload hb 38 dX0_weigh_36 rfl 5 rfl ?_
        refine r_aload_n hb 39 dX0_weigh_38 rfl 2 rfl ?_
        refine r_aload_n hb 40 dX0_weigh_39 rfl 3 rfl ?_
        refine r_iload hb 42 dX0_weigh_40 rfl 0 rfl ?_
        refine r_callV1 (st := []) hb ho 45 dX0_weigh_42 rfl ck_X0_34 (c_X1_searchAt a u s x D f 0 ri b0 b1 b2 eh fc hR hN hD hd1 hd2 (by omega) hx) rfl rfl (fc) rfl rfl (by rw [hR0]; exact ⟨Nat.le_of_ble_eq_true rfl, Nat.le_of_ble_eq_true rfl⟩) (Nat.le_of_ble_eq_true rfl) ⟨rfl, rfl⟩ (by rw [hR0]; exact Nat.zero_le _) (by rw [hR0]; exact Nat.zero_le _) (fun vw_42 w_42 nw_42 qw_42 => ?_)
        obtain ⟨rfl, rfl, fc, ⟨rj, hR⟩, ow_42⟩ := qw_42
        have cq : w_42 q = some (eO 0 [.ref (q + 1), .ref (q + 2), .ref (q + 3), .int (iI (((D.length : Nat) : Int)))]) := (ow_42 _ (by omega)).trans cq
        have c1 : w_42 (q + 1) = some (eI 120 (fun ii => iI (si ii))) := (ow_42 _ (by omega)).trans c1
        have c2 : w_42 (q + 2) = some (eI 120 (fun ii => iI (ei ii))) := (ow_42 _ (by omega)).trans c2
        have c3 : w_42 (q + 3) = some (eI 121 (fun ii => iI (sm ii))) := (ow_42 _ (by omega)).trans c3
        have hN : nt w_42 a x := hN.off ow_42 (by omega)
        have hD : tx w_42 u 120 D := hD.off ow_42 (by omega)
        have d0 : w_42 u = some (eO 7 [.ref (u + 1), .int (iI (((D.length : Nat) : Int)))]) := (ow_42 _ (by omega)).trans d0
        refine r_istore [(6, .int (iI ((gI (bA x D s))))), (5, .int (iI (((s : Nat) : Int)))), (0, .ref q), (1, .ref a), (2, .ref u), (3, .int (iI (thr))), (4, .ref f)] hb 47 7 dX0_weigh_45 rfl hnL (by decide) rfl ?_
        refine r_aload_n hb 48 dX0_weigh_47 rfl 2 rfl ?_
        refine r_get hb ho 51 dX0_weigh_48 rfl lk_X0_9 pf_X0_0 cq rfl ?_
        refine r_iload hb 53 dX0_weigh_51 rfl 1 rfl ?_
        refine r_iload hb 55 dX0_weigh_53 rfl 0 rfl ?_
        refine r_iload_n hb 56 dX0_weigh_55 rfl 5 rfl ?_
        refine r_icmp_ge hb 59 65 dX0_weigh_56 rfl (by decide) (by omega) (by omega) (fun c56 => ?_) (fun c56 => ?_)
        · refine r_iload hb 67 dX0_weigh_65 rfl 0 rfl ?_
          refine r_iastZ hb 68 dX0_weigh_67 rfl c1 s (by omega) (⟨by omega, by omega⟩) (fun w_67 hw_67 => ?_)
          have ow_67 := pset_off hw_67
          have xw_67 : w_67 (q + 1) = some (eI 120 (fun ii => iI ((updZ si s ((gI (bA x D s)))) ii))) := by rw [hw_67]; exact pset_eq _ _ _
          have fc : w_67 f = some (eO 1 [.ref (f + 1), .int (iI (b0)), .int (iI (b1)), .int (iI (b2)), .int (iI (((gE s (bA x D s)))))]) := (ow_67 _ (by omega)).trans fc
          have hR : fr w_67 f 0 rj := hR.off ow_67 (by omega)
          have cq : w_67 q = some (eO 0 [.ref (q + 1), .ref (q + 2), .ref (q + 3), .int (iI (((D.length : Nat) : Int)))]) := (ow_67 _ (by omega)).trans cq
          have c2 : w_67 (q + 2) = some (eI 120 (fun ii => iI (ei ii))) := (ow_67 _ (by omega)).trans c2
          have c3 : w_67 (q + 3) = some (eI 121 (fun ii => iI (sm ii))) := (ow_67 _ (by omega)).trans c3
          have hN : nt w_67 a x := hN.off ow_67 (by omega)
          have hD : tx w_67 u 120 D := hD.off ow_67 (by omega)
          have d0 : w_67 u = some (eO 7 [.ref (u + 1), .int (iI (((D.length : Nat) : Int)))]) := (ow_67 _ (by omega)).trans d0
          refine r_aload_n hb 69 dX0_weigh_68 rfl 2 rfl ?_
          refine r_get hb ho 72 dX0_weigh_69 rfl lk_X0_15 pf_X0_1 cq rfl ?_
          refine r_iload hb 74 dX0_weigh_72 rfl 1 rfl ?_
          refine r_aload hb 76 dX0_weigh_74 rfl 6 rfl ?_
          refine r_get hb ho 79 dX0_weigh_76 rfl lk_X0_40 pf_X1_4 fc rfl ?_
          refine r_iastZ hb 80 dX0_weigh_79 rfl c2 s (by omega) (⟨by omega, by omega⟩) (fun w_79 hw_79 => ?_)
          have ow_79 := pset_off hw_79
          have xw_79 : w_79 (q + 2) = some (eI 120 (fun ii => iI ((updZ ei s (((gE s (bA x D s))))) ii))) := by rw [hw_79]; exact pset_eq _ _ _
          have xw_67 : w_79 (q + 1) = some (eI 120 (fun ii => iI ((updZ si s ((gI (bA x D s)))) ii))) := (ow_79 _ (by omega)).trans xw_67
          have fc : w_79 f = some (eO 1 [.ref (f + 1), .int (iI (b0)), .int (iI (b1)), .int (iI (b2)), .int (iI (((gE s (bA x D s)))))]) := (ow_79 _ (by omega)).trans fc
          have hR : fr w_79 f 0 rj := hR.off ow_79 (by omega)
          have cq : w_79 q = some (eO 0 [.ref (q + 1), .ref (q + 2), .ref (q + 3), .int (iI (((D.length : Nat) : Int)))]) := (ow_79 _ (by omega)).trans cq
          have c3 : w_79 (q + 3) = some (eI 121 (fun ii => iI (sm ii))) := (ow_79 _ (by omega)).trans c3
          have hN : nt w_79 a x := hN.off ow_79 (by omega)
          have hD : tx w_79 u 120 D := hD.off ow_79 (by omega)
          have d0 : w_79 u = some (eO 7 [.ref (u + 1), .int (iI (((D.length : Nat) : Int)))]) := (ow_79 _ (by omega)).trans d0
          refine r_iinc [(5, .int (iI (((s : Nat) : Int) + 1))), (6, .int (iI ((gI (bA x D s))))), (0, .ref q), (1, .ref a), (2, .ref u), (3, .int (iI (thr))), (4, .ref f)] hb 83 7 1 dX0_weigh_80 rfl rfl hnL (by decide) (((s : Nat) : Int) + 1) (by omega) rfl ?_
          refine r_goto hb 27 dX0_weigh_83 (by decide) ?_
          have e : elN x D thr s = gI (bA x D s) := by unfold elN; rw [if_neg (by omega)]
          refine r_lv [(5, .int (iI (((s + 1 : Nat)) : Int))), (0, .ref q), (1, .ref a), (2, .ref u), (3, .int (iI thr)), (4, .ref f)] [0, 2, 3, 4, 5, 6] rfl ?_
          refine ih_lp (D.length - (s + 1)) (by omega) (s + 1) _ _ _ _ _ rfl (by omega) ⟨cq, xw_67, xw_79, c3⟩ ?_ ?_ fc hR hN hD (((hO.trans (off_r ow_42 (by omega) (by omega) _ _)).trans (off_l ow_67 (by omega) (by omega) _ _)).trans (off_l ow_79 (by omega) (by omega) _ _))
          · intro p hp
            by_cases e1 : p = s
            · subst e1; rw [updZ_s, e]
            · rw [updZ_n _ _ e1]; exact hs1 p (by omega)
          · intro p hp
            by_cases e1 : p = s
            · subst e1; rw [updZ_s]
            · rw [updZ_n _ _ e1]; exact he1 p (by omega)
        · refine r_sipush (-1005) hb 62 dX0_weigh_59 rfl rfl ?_
          refine r_goto hb 67 dX0_weigh_62 (by decide) ?_
          refine r_iastZ hb 68 dX0_weigh_67 rfl c1 s (by omega) (⟨by omega, by omega⟩) (fun w_67 hw_67 => ?_)
          have ow_67 := pset_off hw_67
          have xw_67 : w_67 (q + 1) = some (eI 120 (fun ii => iI ((updZ si s (-1005)) ii))) := by rw [hw_67]; exact pset_eq _ _ _
          have fc : w_67 f = some (eO 1 [.ref (f + 1), .int (iI (b0)), .int (iI (b1)), .int (iI (b2)), .int (iI (((gE s (bA x D s)))))]) := (ow_67 _ (by omega)).trans fc
          have hR : fr w_67 f 0 rj := hR.off ow_67 (by omega)
          have cq : w_67 q = some (eO 0 [.ref (q + 1), .ref (q + 2), .ref (q + 3), .int (iI (((D.length : Nat) : Int)))]) := (ow_67 _ (by omega)).trans cq
          have c2 : w_67 (q + 2) = some (eI 120 (fun ii => iI (ei ii))) := (ow_67 _ (by omega)).trans c2
          have c3 : w_67 (q + 3) = some (eI 121 (fun ii => iI (sm ii))) := (ow_67 _ (by omega)).trans c3
          have hN : nt w_67 a x := hN.off ow_67 (by omega)
          have hD : tx w_67 u 120 D := hD.off ow_67 (by omega)
          have d0 : w_67 u = some (eO 7 [.ref (u + 1), .int (iI (((D.length : Nat) : Int)))]) := (ow_67 _ (by omega)).trans d0
          refine r_aload_n hb 69 dX0_weigh_68 rfl 2 rfl ?_
          refine r_get hb ho 72 dX0_weigh_69 rfl lk_X0_15 pf_X0_1 cq rfl ?_
          refine r_iload hb 74 dX0_weigh_72 rfl 1 rfl ?_
          refine r_aload hb 76 dX0_weigh_74 rfl 6 rfl ?_
          refine r_get hb ho 79 dX0_weigh_76 rfl lk_X0_40 pf_X1_4 fc rfl ?_
          refine r_iastZ hb 80 dX0_weigh_79 rfl c2 s (by omega) (⟨by omega, by omega⟩) (fun w_79 hw_79 => ?_)
          have ow_79 := pset_off hw_79
          have xw_79 : w_79 (q + 2) = some (eI 120 (fun ii => iI ((updZ ei s (((gE s (bA x D s))))) ii))) := by rw [hw_79]; exact pset_eq _ _ _
          have xw_67 : w_79 (q + 1) = some (eI 120 (fun ii => iI ((updZ si s (-1005)) ii))) := (ow_79 _ (by omega)).trans xw_67
          have fc : w_79 f = some (eO 1 [.ref (f + 1), .int (iI (b0)), .int (iI (b1)), .int (iI (b2)), .int (iI (((gE s (bA x D s)))))]) := (ow_79 _ (by omega)).trans fc
          have hR : fr w_79 f 0 rj := hR.off ow_79 (by omega)
          have cq : w_79 q = some (eO 0 [.ref (q + 1), .ref (q + 2), .ref (q + 3), .int (iI (((D.length : Nat) : Int)))]) := (ow_79 _ (by omega)).trans cq
          have c3 : w_79 (q + 3) = some (eI 121 (fun ii => iI (sm ii))) := (ow_79 _ (by omega)).trans c3
          have hN : nt w_79 a x := hN.off ow_79 (by omega)
          have hD : tx w_79 u 120 D := hD.off ow_79 (by omega)
          have d0 : w_79 u = some (eO 7 [.ref (u + 1), .int (iI (((D.length : Nat) : Int)))]) := (ow_79 _ (by omega)).trans d0
          refine r_iinc [(5, .int (iI (((s : Nat) : Int) + 1))), (6, .int (iI ((gI (bA x D s))))), (0, .ref q), (1, .ref a), (2, .ref u), (3, .int (iI (thr))), (4, .ref f)] hb 83 7 1 dX0_weigh_80 rfl rfl hnL (by decide) (((s : Nat) : Int) + 1) (by omega) rfl ?_
          refine r_goto hb 27 dX0_weigh_83 (by decide) ?_
          have e : elN x D thr s = (-1005) := by unfold elN; rw [if_pos (by omega)]
          refine r_lv [(5, .int (iI (((s + 1 : Nat)) : Int))), (0, .ref q), (1, .ref a), (2, .ref u), (3, .int (iI thr)), (4, .ref f)] [0, 2, 3, 4, 5, 6] rfl ?_
          refine ih_lp (D.length - (s + 1)) (by omega) (s + 1) _ _ _ _ _ rfl (by omega) ⟨cq, xw_67, xw_79, c3⟩ ?_ ?_ fc hR hN hD (((hO.trans (off_r ow_42 (by omega) (by omega) _ _)).trans (off_l ow_67 (by omega) (by omega) _ _)).trans (off_l ow_79 (by omega) (by omega) _ _))
          · intro p hp
            by_cases e1 : p = s
            · subst e1; rw [updZ_s, e]
            · rw [updZ_n _ _ e1]; exact hs1 p (by omega)
          · intro p hp
            by_cases e1 : p = s
            · subst e1; rw [updZ_s]
            · rw [updZ_n _ _ e1]; exact he1 p (by omega)
  refine r_lv [(5, .int (iI (((0 : Nat)) : Int))), (0, .ref q), (1, .ref a), (2, .ref u), (3, .int (iI thr)), (4, .ref f)] [0, 1, 2, 3, 4, 5] rfl ?_
  exact lp _ 0 _ sc en eh r0 rfl (Nat.zero_le _) ⟨xw_21, c1, c2, c3⟩ (fun p hp => absurd hp (Nat.not_lt_zero _)) (fun p hp => absurd hp (Nat.not_lt_zero _)) fc hR hN hD (off_l ow_21 (by omega) (by omega) _ _)

abbrev rm_X0_addUp : Room := { frames := 1, cells := 0, slots := 0, locals := 21 }
set_option maxHeartbeats 4000000 in
set_option maxRecDepth 100000 in
theorem c_X0_addUp (q sz : Nat) (sc en sm : Nat → Int) (r szr : Nat) (scr enr b : Nat → Int) {w : PW} {n : Nat} (hC : chp w q sz sc en sm) (hB : chp w r szr scr enr b) (hqr : q + 4 ≤ r ∨ r + 4 ≤ q) (hz : sz ≤ 120) (hsc : ∀ p, p < sz → -1005 ≤ sc p ∧ sc p ≤ 108) (hbd : ∀ p, p ≤ 120 → 0 ≤ b p ∧ b p ≤ 2000) : Ct0 yX0_addUp cX0_addUp 4 none rm_X0_addUp [.ref q, .ref r] w n (fun w1 n1 => n = n1 ∧ (∃ sm1, chp w1 q sz sc en sm1 ∧ ∀ p, p ≤ 120 → sm1 p = upS sz sc b (121 - p)) ∧ off w w1 q (q + 4)) := by
  obtain ⟨cq, c1, c2, c3⟩ := id hC
  refine Ctr.of rfl (Nat.le_of_ble_eq_true rfl) fun S hS => ?_
  have hb : S.1.1 = cX0_addUp := by rw [hS]; rfl
  have ho : S.1.2.1 = RX0 := by rw [hS]; rfl
  have hnL : S.1.2.2.1 = 4 := by rw [hS]; rfl
  have hR0 : S.2.1 = rm_X0_addUp := by rw [hS]; rfl
  show Wp S 0 [(0, .ref q), (1, .ref r)] [] w n 0 0
  refine r_iconst hb 1 dX0_addUp_0 rfl ?_
  refine r_istore_n [(2, .int (iI 0)), (0, .ref q), (1, .ref r)] hb 2 4 dX0_addUp_1 rfl rfl hnL (by decide) rfl ?_
  refine r_aload_n hb 3 dX0_addUp_2 rfl 1 rfl ?_
  refine r_get hb ho 6 dX0_addUp_3 rfl lk_X0_18 pf_X0_2 cq rfl ?_
  refine r_alen hb 7 dX0_addUp_6 rfl c3 (by decide) 121 rfl ?_
  refine r_iconst hb 8 dX0_addUp_7 rfl ?_
  refine r_isubZ hb 9 120 dX0_addUp_8 rfl (by omega) ?_
  refine r_istore_n [(3, .int (iI 120)), (2, .int (iI 0)), (0, .ref q), (1, .ref r)] hb 10 4 dX0_addUp_9 rfl rfl hnL (by decide) rfl ?_
  have lp : ∀ (d : Nat) (k : Nat) (wi : PW) (mi : Nat → Int), k = d → (k ≤ 121) → (chp wi q sz sc en mi) → (chp wi r szr scr enr b) → (∀ p, k ≤ p → p ≤ 120 → mi p = upS sz sc b (121 - p)) → (off w wi q (q + 4)) → Wp S 10 [(3, .int (iI (((k : Nat) : Int) - 1))), (2, .int (iI ((upS sz sc b (121 - k))))), (0, .ref q), (1, .ref r)] [] wi n 0 0 := by
    intro d
    induction d using Nat.strongRecOn with
    | _ d ih_lp =>
      intro k wi mi hd_lp hk hC hB hm hO
      obtain ⟨cq, c1, c2, c3⟩ := id hC
      have hub := upS_bd (sz := sz) (sc := sc) (b := b) (B := 2000) (by omega) (fun p hp => (hsc p hp).2) hbd (121 - k)
      refine r_iload_n hb 11 dX0_addUp_10 rfl 0 rfl ?_
      refine r_if_lt hb 14 83 dX0_addUp_11 rfl (by decide) (by omega) (fun c11 => ?_) (fun c11 => ?_)
      · refine r_vret hS dX0_addUp_83 rfl (Nat.zero_le _) (Nat.zero_le _) ?_
        have ek : k = 0 := by omega
        subst ek
        exact ⟨rfl, rfl, ⟨mi, hC, fun p hp => hm p (Nat.zero_le _) hp⟩, hO⟩
      · refine r_iload_n hb 15 dX0_addUp_14 rfl 1 rfl ?_
        refine r_aload_n hb 16 dX0_addUp_15 rfl 3 rfl ?_
        refine r_iload_n hb 17 dX0_addUp_16 rfl 0 rfl ?_
        refine r_topv (.int (iI ((((k - 1 : Nat) : Nat) : Int)))) (by rw [show (((k - 1 : Nat) : Nat) : Int) = (k : Int) - 1 by omega]) ?_
        have hbk := hbd (k - 1) (by omega)
        refine r_callVR (st := [.int (iI ((upS sz sc b (121 - k))))]) hb ho 20 dX0_addUp_17 rfl ck_X0_43 (c_X0_sumFrom r szr scr enr b (k - 1) hB (by omega)) rfl rfl (hB.1) rfl rfl (by rw [hR0]; exact ⟨Nat.le_of_ble_eq_true rfl, Nat.le_of_ble_eq_true rfl⟩) (Nat.le_of_ble_eq_true rfl) ⟨rfl, rfl⟩ (by rw [hR0]; exact Nat.zero_le _) (by rw [hR0]; exact Nat.zero_le _) ?_
        refine r_max hb ho 23 dX0_addUp_20 rfl ck_X0_47 (by rw [hR0]; exact Nat.le_of_ble_eq_true rfl) (by rw [hR0]; exact Nat.le_of_ble_eq_true rfl) (by rw [hR0]; exact Nat.zero_le _) (by rw [hR0]; exact Nat.zero_le _) (by omega) (by omega) ((max ((upS sz sc b (121 - k))) ((b (k - 1))))) (by omega) ?_
        refine r_istore_n [(2, .int (iI ((max ((upS sz sc b (121 - k))) ((b (k - 1))))))), (3, .int (iI (((k : Nat) : Int) - 1))), (0, .ref q), (1, .ref r)] hb 24 4 dX0_addUp_23 rfl rfl hnL (by decide) rfl ?_
        refine r_iload_n hb 25 dX0_addUp_24 rfl 1 rfl ?_
        refine r_aload_n hb 26 dX0_addUp_25 rfl 2 rfl ?_
        refine r_get hb ho 29 dX0_addUp_26 rfl lk_X0_33 pf_X0_3 cq rfl ?_
        refine r_icmp_ge hb 32 70 dX0_addUp_29 rfl (by decide) (by omega) (by omega) (fun c29 => ?_) (fun c29 => ?_)
        · refine r_aload_n hb 71 dX0_addUp_70 rfl 2 rfl ?_
          refine r_get hb ho 74 dX0_addUp_71 rfl lk_X0_18 pf_X0_2 cq rfl ?_
          refine r_iload_n hb 75 dX0_addUp_74 rfl 1 rfl ?_
          refine r_iload_n hb 76 dX0_addUp_75 rfl 0 rfl ?_
          refine r_iastZ hb 77 dX0_addUp_76 rfl c3 (k - 1) (by omega) (⟨by omega, by omega⟩) (fun w_76 hw_76 => ?_)
          have ow_76 := pset_off hw_76
          have xw_76 : w_76 (q + 3) = some (eI 121 (fun ii => iI ((updZ mi (k - 1) ((max ((upS sz sc b (121 - k))) ((b (k - 1)))))) ii))) := by rw [hw_76]; exact pset_eq _ _ _
          have cq : w_76 q = some (eO 0 [.ref (q + 1), .ref (q + 2), .ref (q + 3), .int (iI (((sz : Nat) : Int)))]) := (ow_76 _ (by omega)).trans cq
          have c1 : w_76 (q + 1) = some (eI 120 (fun ii => iI (sc ii))) := (ow_76 _ (by omega)).trans c1
          have c2 : w_76 (q + 2) = some (eI 120 (fun ii => iI (en ii))) := (ow_76 _ (by omega)).trans c2
          have hB : chp w_76 r szr scr enr b := hB.off ow_76 (by omega)
          refine r_iinc [(3, .int (iI (((k : Nat) : Int) - 2))), (2, .int (iI ((max ((upS sz sc b (121 - k))) ((b (k - 1))))))), (0, .ref q), (1, .ref r)] hb 80 4 1 dX0_addUp_77 rfl rfl hnL (by decide) (((k : Nat) : Int) - 2) (by omega) rfl ?_
          refine r_goto hb 10 dX0_addUp_80 (by decide) ?_
          have e : upS sz sc b (121 - (k - 1)) = max (upS sz sc b (121 - k)) (b (k - 1)) := by
            rw [show 121 - (k - 1) = (121 - k) + 1 by omega]; simp only [upS]; rw [show 120 - (121 - k) = k - 1 by omega, if_neg (by omega)]
          refine r_lv [(3, .int (iI ((((k - 1 : Nat) : Nat) : Int) - 1))), (2, .int (iI (upS sz sc b (121 - (k - 1))))), (0, .ref q), (1, .ref r)] [0, 1, 2, 3] (by rw [e, show (((k - 1 : Nat) : Nat) : Int) - 1 = (k : Int) - 2 by omega]; rfl) ?_
          refine ih_lp (k - 1) (by omega) (k - 1) _ _ rfl (by omega) ⟨cq, c1, c2, xw_76⟩ hB ?_ (hO.trans (ow_76.mono (by omega) (by omega)))
          intro p hp hp2
          by_cases e1 : p = k - 1
          · subst e1; rw [updZ_s, e]
          · rw [updZ_n _ _ e1]; exact hm p (by omega) hp2
        · refine r_iload_n hb 33 dX0_addUp_32 rfl 1 rfl ?_
          refine r_aload_n hb 34 dX0_addUp_33 rfl 2 rfl ?_
          refine r_get hb ho 37 dX0_addUp_34 rfl lk_X0_9 pf_X0_0 cq rfl ?_
          refine r_alen hb 38 dX0_addUp_37 rfl c1 (by decide) 120 rfl ?_
          refine r_icmp_ge hb 41 70 dX0_addUp_38 rfl (by decide) (by omega) (by omega) (fun c38 => ?_) (fun c38 => ?_)
          · exfalso; omega
          · refine r_aload_n hb 42 dX0_addUp_41 rfl 2 rfl ?_
            refine r_get hb ho 45 dX0_addUp_42 rfl lk_X0_9 pf_X0_0 cq rfl ?_
            refine r_iload_n hb 46 dX0_addUp_45 rfl 1 rfl ?_
            refine r_ialdZ hb 47 dX0_addUp_46 rfl c1 (k - 1) (by omega) (⟨by omega, by omega⟩) ?_
            refine r_sipush (-1005) hb 50 dX0_addUp_47 rfl rfl ?_
            have hsk := hsc (k - 1) (by omega)
            refine r_icmp_eq hb 53 70 dX0_addUp_50 rfl (by decide) (by omega) (by omega) (fun c50 => ?_) (fun c50 => ?_)
            · refine r_aload_n hb 71 dX0_addUp_70 rfl 2 rfl ?_
              refine r_get hb ho 74 dX0_addUp_71 rfl lk_X0_18 pf_X0_2 cq rfl ?_
              refine r_iload_n hb 75 dX0_addUp_74 rfl 1 rfl ?_
              refine r_iload_n hb 76 dX0_addUp_75 rfl 0 rfl ?_
              refine r_iastZ hb 77 dX0_addUp_76 rfl c3 (k - 1) (by omega) (⟨by omega, by omega⟩) (fun w_76 hw_76 => ?_)
              have ow_76 := pset_off hw_76
              have xw_76 : w_76 (q + 3) = some (eI 121 (fun ii => iI ((updZ mi (k - 1) ((max ((upS sz sc b (121 - k))) ((b (k - 1)))))) ii))) := by rw [hw_76]; exact pset_eq _ _ _
              have cq : w_76 q = some (eO 0 [.ref (q + 1), .ref (q + 2), .ref (q + 3), .int (iI (((sz : Nat) : Int)))]) := (ow_76 _ (by omega)).trans cq
              have c1 : w_76 (q + 1) = some (eI 120 (fun ii => iI (sc ii))) := (ow_76 _ (by omega)).trans c1
              have c2 : w_76 (q + 2) = some (eI 120 (fun ii => iI (en ii))) := (ow_76 _ (by omega)).trans c2
              have hB : chp w_76 r szr scr enr b := hB.off ow_76 (by omega)
              refine r_iinc [(3, .int (iI (((k : Nat) : Int) - 2))), (2, .int (iI ((max ((upS sz sc b (121 - k))) ((b (k - 1))))))), (0, .ref q), (1, .ref r)] hb 80 4 1 dX0_addUp_77 rfl rfl hnL (by decide) (((k : Nat) : Int) - 2) (by omega) rfl ?_
              refine r_goto hb 10 dX0_addUp_80 (by decide) ?_
              have e : upS sz sc b (121 - (k - 1)) = max (upS sz sc b (121 - k)) (b (k - 1)) := by
                rw [show 121 - (k - 1) = (121 - k) + 1 by omega]; simp only [upS]; rw [show 120 - (121 - k) = k - 1 by omega, if_neg (fun hh => hh.2 c50)]
              refine r_lv [(3, .int (iI ((((k - 1 : Nat) : Nat) : Int) - 1))), (2, .int (iI (upS sz sc b (121 - (k - 1))))), (0, .ref q), (1, .ref r)] [0, 1, 2, 3] (by rw [e, show (((k - 1 : Nat) : Nat) : Int) - 1 = (k : Int) - 2 by omega]; rfl) ?_
              refine ih_lp (k - 1) (by omega) (k - 1) _ _ rfl (by omega) ⟨cq, c1, c2, xw_76⟩ hB ?_ (hO.trans (ow_76.mono (by omega) (by omega)))
              intro p hp hp2
              by_cases e1 : p = k - 1
              · subst e1; rw [updZ_s, e]
              · rw [updZ_n _ _ e1]; exact hm p (by omega) hp2
            · refine r_iload_n hb 54 dX0_addUp_53 rfl 0 rfl ?_
              refine r_aload_n hb 55 dX0_addUp_54 rfl 2 rfl ?_
              refine r_get hb ho 58 dX0_addUp_55 rfl lk_X0_9 pf_X0_0 cq rfl ?_
              refine r_iload_n hb 59 dX0_addUp_58 rfl 1 rfl ?_
              refine r_ialdZ hb 60 dX0_addUp_59 rfl c1 (k - 1) (by omega) (⟨by omega, by omega⟩) ?_
              refine r_aload_n hb 61 dX0_addUp_60 rfl 3 rfl ?_
              refine r_iload_n hb 62 dX0_addUp_61 rfl 1 rfl ?_
              refine r_topv (.int (iI ((((k - 1 : Nat) : Nat) : Int)))) (by rw [show (((k - 1 : Nat) : Nat) : Int) = (k : Int) - 1 by omega]) ?_
              refine r_callVR (st := [.int (iI ((sc (k - 1)))), .int (iI ((max ((upS sz sc b (121 - k))) ((b (k - 1))))))]) hb ho 65 dX0_addUp_62 rfl ck_X0_43 (c_X0_sumFrom r szr scr enr b (k - 1) hB (by omega)) rfl rfl (hB.1) rfl rfl (by rw [hR0]; exact ⟨Nat.le_of_ble_eq_true rfl, Nat.le_of_ble_eq_true rfl⟩) (Nat.le_of_ble_eq_true rfl) ⟨rfl, rfl⟩ (by rw [hR0]; exact Nat.zero_le _) (by rw [hR0]; exact Nat.zero_le _) ?_
              refine r_iaddZ hb 66 ((sc (k - 1)) + (b (k - 1))) dX0_addUp_65 rfl (by omega) ?_
              refine r_max hb ho 69 dX0_addUp_66 rfl ck_X0_47 (by rw [hR0]; exact Nat.le_of_ble_eq_true rfl) (by rw [hR0]; exact Nat.le_of_ble_eq_true rfl) (by rw [hR0]; exact Nat.zero_le _) (by rw [hR0]; exact Nat.zero_le _) (by omega) (by omega) ((max ((max ((upS sz sc b (121 - k))) ((b (k - 1))))) ((sc (k - 1)) + (b (k - 1))))) (by omega) ?_
              refine r_istore_n [(2, .int (iI ((max ((max ((upS sz sc b (121 - k))) ((b (k - 1))))) ((sc (k - 1)) + (b (k - 1))))))), (3, .int (iI (((k : Nat) : Int) - 1))), (0, .ref q), (1, .ref r)] hb 70 4 dX0_addUp_69 rfl rfl hnL (by decide) rfl ?_
              refine r_aload_n hb 71 dX0_addUp_70 rfl 2 rfl ?_
              refine r_get hb ho 74 dX0_addUp_71 rfl lk_X0_18 pf_X0_2 cq rfl ?_
              refine r_iload_n hb 75 dX0_addUp_74 rfl 1 rfl ?_
              refine r_iload_n hb 76 dX0_addUp_75 rfl 0 rfl ?_
              refine r_iastZ hb 77 dX0_addUp_76 rfl c3 (k - 1) (by omega) (⟨by omega, by omega⟩) (fun w_76 hw_76 => ?_)
              have ow_76 := pset_off hw_76
              have xw_76 : w_76 (q + 3) = some (eI 121 (fun ii => iI ((updZ mi (k - 1) ((max ((max ((upS sz sc b (121 - k))) ((b (k - 1))))) ((sc (k - 1)) + (b (k - 1)))))) ii))) := by rw [hw_76]; exact pset_eq _ _ _
              have cq : w_76 q = some (eO 0 [.ref (q + 1), .ref (q + 2), .ref (q + 3), .int (iI (((sz : Nat) : Int)))]) := (ow_76 _ (by omega)).trans cq
              have c1 : w_76 (q + 1) = some (eI 120 (fun ii => iI (sc ii))) := (ow_76 _ (by omega)).trans c1
              have c2 : w_76 (q + 2) = some (eI 120 (fun ii => iI (en ii))) := (ow_76 _ (by omega)).trans c2
              have hB : chp w_76 r szr scr enr b := hB.off ow_76 (by omega)
              refine r_iinc [(3, .int (iI (((k : Nat) : Int) - 2))), (2, .int (iI ((max ((max ((upS sz sc b (121 - k))) ((b (k - 1))))) ((sc (k - 1)) + (b (k - 1))))))), (0, .ref q), (1, .ref r)] hb 80 4 1 dX0_addUp_77 rfl rfl hnL (by decide) (((k : Nat) : Int) - 2) (by omega) rfl ?_
              refine r_goto hb 10 dX0_addUp_80 (by decide) ?_
              have e : upS sz sc b (121 - (k - 1)) = max (max (upS sz sc b (121 - k)) (b (k - 1))) (sc (k - 1) + b (k - 1)) := by
                rw [show 121 - (k - 1) = (121 - k) + 1 by omega]; simp only [upS]; rw [show 120 - (121 - k) = k - 1 by omega, if_pos ⟨by omega, c50⟩]
              refine r_lv [(3, .int (iI ((((k - 1 : Nat) : Nat) : Int) - 1))), (2, .int (iI (upS sz sc b (121 - (k - 1))))), (0, .ref q), (1, .ref r)] [0, 1, 2, 3] (by rw [e, show (((k - 1 : Nat) : Nat) : Int) - 1 = (k : Int) - 2 by omega]; rfl) ?_
              refine ih_lp (k - 1) (by omega) (k - 1) _ _ rfl (by omega) ⟨cq, c1, c2, xw_76⟩ hB ?_ (hO.trans (ow_76.mono (by omega) (by omega)))
              intro p hp hp2
              by_cases e1 : p = k - 1
              · subst e1; rw [updZ_s, e]
              · rw [updZ_n _ _ e1]; exact hm p (by omega) hp2
  refine r_lv [(3, .int (iI (((121 : Nat) : Int) - 1))), (2, .int (iI (upS sz sc b (121 - 121)))), (0, .ref q), (1, .ref r)] [0, 1, 2, 3] rfl ?_
  exact lp _ 121 _ sm rfl (Nat.le_refl _) hC hB (fun p hp hp2 => absurd hp2 (by omega)) (off.rfl' _ _ _)

abbrev rm_X0_choose : Room := { frames := 1, cells := 0, slots := 0, locals := 21 }
set_option maxHeartbeats 4000000 in
set_option maxRecDepth 100000 in
theorem c_X0_choose (q sz : Nat) (sc en sm : Nat → Int) (r szr fr : Nat) (scr enr b : Nat → Int) {w : PW} {n : Nat} (hC : chp w q sz sc en sm) (hB : chp w r szr scr enr b) (hz : sz ≤ 120) (hfr : fr ≤ 120) (hsc : ∀ p, p < sz → -1005 ≤ sc p ∧ sc p ≤ 108) (hbd : ∀ p, p ≤ 120 → 0 ≤ b p ∧ b p ≤ 2000) (hsm : 0 ≤ sm fr ∧ sm fr ≤ 5000) : CtR yX0_choose cX0_choose 7 (some .int) rm_X0_choose [.ref q, .int (iI (((fr : Nat) : Int))), .ref r] w n (.int (iI (((chS sc b (sm fr) fr (sz - fr)).2)))) := by
  obtain ⟨cq, c1, c2, c3⟩ := id hC
  refine Ctr.of rfl (Nat.le_of_ble_eq_true rfl) fun S hS => ?_
  have hb : S.1.1 = cX0_choose := by rw [hS]; rfl
  have ho : S.1.2.1 = RX0 := by rw [hS]; rfl
  have hnL : S.1.2.2.1 = 7 := by rw [hS]; rfl
  have hR0 : S.2.1 = rm_X0_choose := by rw [hS]; rfl
  show Wp S 0 [(0, .ref q), (1, .int (iI (((fr : Nat) : Int)))), (2, .ref r)] [] w n 0 0
  refine r_sipush (-1005) hb 3 dX0_choose_0 rfl rfl ?_
  refine r_istore_n [(3, .int (iI (-1005))), (0, .ref q), (1, .int (iI (((fr : Nat) : Int)))), (2, .ref r)] hb 4 7 dX0_choose_3 rfl rfl hnL (by decide) rfl ?_
  refine r_sipush (-1005) hb 7 dX0_choose_4 rfl rfl ?_
  refine r_istore [(4, .int (iI (-1005))), (3, .int (iI (-1005))), (0, .ref q), (1, .int (iI (((fr : Nat) : Int)))), (2, .ref r)] hb 9 7 dX0_choose_7 rfl hnL (by decide) rfl ?_
  refine r_iconst hb 10 dX0_choose_9 rfl ?_
  refine r_iload_n hb 11 dX0_choose_10 rfl 3 rfl ?_
  refine r_max hb ho 14 dX0_choose_11 rfl ck_X0_47 (by rw [hR0]; exact Nat.le_of_ble_eq_true rfl) (by rw [hR0]; exact Nat.le_of_ble_eq_true rfl) (by rw [hR0]; exact Nat.zero_le _) (by rw [hR0]; exact Nat.zero_le _) (by omega) (by omega) (((fr : Nat) : Int)) (by omega) ?_
  refine r_istore [(5, .int (iI (((fr : Nat) : Int)))), (4, .int (iI (-1005))), (3, .int (iI (-1005))), (0, .ref q), (1, .int (iI (((fr : Nat) : Int)))), (2, .ref r)] hb 16 7 dX0_choose_14 rfl hnL (by decide) rfl ?_
  have lp : ∀ (d : Nat) (k : Nat), sz - (fr + k) = d → (k = 0 ∨ fr + k ≤ sz) → Wp S 16 [(5, .int (iI ((((fr + k : Nat) : Nat) : Int)))), (4, .int (iI (((chS sc b (sm fr) fr k).1)))), (3, .int (iI (((chS sc b (sm fr) fr k).2)))), (0, .ref q), (1, .int (iI (((fr : Nat) : Int)))), (2, .ref r)] [] w n 0 0 := by
    intro d
    induction d using Nat.strongRecOn with
    | _ d ih_lp =>
      intro k hd_lp hk
      have hcb : -1005 ≤ (chS sc b (sm fr) fr k).1 ∧ (chS sc b (sm fr) fr k).1 ≤ 108 := by
        rcases chS_bd sc b (sm fr) fr k with h | ⟨p, h1, h2, h3⟩
        · rw [h]; exact ⟨Int.le_refl _, by decide⟩
        · rw [h3]; exact hsc p (by omega)
      refine r_iload hb 18 dX0_choose_16 rfl 0 rfl ?_
      refine r_aload_n hb 19 dX0_choose_18 rfl 3 rfl ?_
      refine r_get hb ho 22 dX0_choose_19 rfl lk_X0_33 pf_X0_3 cq rfl ?_
      refine r_icmp_ge hb 25 81 dX0_choose_22 rfl (by decide) (by omega) (by omega) (fun c22 => ?_) (fun c22 => ?_)
      · refine r_iload_n hb 82 dX0_choose_81 rfl 2 rfl ?_
        refine r_iret hS dX0_choose_82 rfl rfl (Nat.zero_le _) (Nat.zero_le _) ?_
        exact ⟨_, rfl, by rw [show sz - fr = k by omega], rfl, rfl⟩
      · refine r_iload hb 27 dX0_choose_25 rfl 0 rfl ?_
        refine r_aload_n hb 28 dX0_choose_27 rfl 3 rfl ?_
        refine r_get hb ho 31 dX0_choose_28 rfl lk_X0_9 pf_X0_0 cq rfl ?_
        refine r_alen hb 32 dX0_choose_31 rfl c1 (by decide) 120 rfl ?_
        refine r_icmp_ge hb 35 81 dX0_choose_32 rfl (by decide) (by omega) (by omega) (fun c32 => ?_) (fun c32 => ?_)
        · exfalso; omega
        · refine r_aload_n hb 36 dX0_choose_35 rfl 3 rfl ?_
          refine r_get hb ho 39 dX0_choose_36 rfl lk_X0_9 pf_X0_0 cq rfl ?_
          refine r_iload hb 41 dX0_choose_39 rfl 0 rfl ?_
          refine r_ialdZ hb 42 dX0_choose_41 rfl c1 (fr + k) (by omega) (⟨by omega, by omega⟩) ?_
          refine r_istore [(6, .int (iI ((sc (fr + k))))), (5, .int (iI ((((fr + k : Nat) : Nat) : Int)))), (4, .int (iI (((chS sc b (sm fr) fr k).1)))), (3, .int (iI (((chS sc b (sm fr) fr k).2)))), (0, .ref q), (1, .int (iI (((fr : Nat) : Int)))), (2, .ref r)] hb 44 7 dX0_choose_42 rfl hnL (by decide) rfl ?_
          refine r_iload hb 46 dX0_choose_44 rfl 0 rfl ?_
          refine r_iload hb 48 dX0_choose_46 rfl 2 rfl ?_
          have hsk := hsc (fr + k) (by omega)
          have hbk := hbd (fr + k) (by omega)
          refine r_icmp_le hb 51 75 dX0_choose_48 rfl (by decide) (by omega) (by omega) (fun c48 => ?_) (fun c48 => ?_)
          · refine r_iinc [(5, .int (iI ((((fr + k : Nat) : Nat) : Int) + 1))), (6, .int (iI ((sc (fr + k))))), (4, .int (iI (((chS sc b (sm fr) fr k).1)))), (3, .int (iI (((chS sc b (sm fr) fr k).2)))), (0, .ref q), (1, .int (iI (((fr : Nat) : Int)))), (2, .ref r)] hb 78 7 1 dX0_choose_75 rfl rfl hnL (by decide) ((((fr + k : Nat) : Nat) : Int) + 1) (by omega) rfl ?_
            refine r_goto hb 16 dX0_choose_78 (by decide) ?_
            have e : chS sc b (sm fr) fr (k + 1) = chS sc b (sm fr) fr k := by simp only [chS]; rw [if_neg (by omega)]
            refine r_lv [(5, .int (iI (((fr + (k + 1) : Nat)) : Int))), (4, .int (iI (chS sc b (sm fr) fr (k + 1)).1)), (3, .int (iI (chS sc b (sm fr) fr (k + 1)).2)), (0, .ref q), (1, .int (iI ((fr : Nat) : Int))), (2, .ref r)] [0, 2, 3, 4, 5, 6] (by rw [e]; rfl) ?_
            exact ih_lp (sz - (fr + (k + 1))) (by omega) (k + 1) rfl (by omega)
          · refine r_iload hb 53 dX0_choose_51 rfl 0 rfl ?_
            refine r_aload_n hb 54 dX0_choose_53 rfl 6 rfl ?_
            refine r_iload hb 56 dX0_choose_54 rfl 1 rfl ?_
            refine r_callVR (st := [.int (iI ((sc (fr + k))))]) hb ho 59 dX0_choose_56 rfl ck_X0_43 (c_X0_sumFrom r szr scr enr b (fr + k) hB (by omega)) rfl rfl (hB.1) rfl rfl (by rw [hR0]; exact ⟨Nat.le_of_ble_eq_true rfl, Nat.le_of_ble_eq_true rfl⟩) (Nat.le_of_ble_eq_true rfl) ⟨rfl, rfl⟩ (by rw [hR0]; exact Nat.zero_le _) (by rw [hR0]; exact Nat.zero_le _) ?_
            refine r_iaddZ hb 60 ((sc (fr + k)) + (b (fr + k))) dX0_choose_59 rfl (by omega) ?_
            refine r_aload_n hb 61 dX0_choose_60 rfl 4 rfl ?_
            refine r_iload_n hb 62 dX0_choose_61 rfl 5 rfl ?_
            refine r_callVR (st := [.int (iI ((sc (fr + k)) + (b (fr + k))))]) hb ho 65 dX0_choose_62 rfl ck_X0_43 (c_X0_sumFrom q sz sc en sm fr hC (by omega)) rfl rfl (cq) rfl rfl (by rw [hR0]; exact ⟨Nat.le_of_ble_eq_true rfl, Nat.le_of_ble_eq_true rfl⟩) (Nat.le_of_ble_eq_true rfl) ⟨rfl, rfl⟩ (by rw [hR0]; exact Nat.zero_le _) (by rw [hR0]; exact Nat.zero_le _) ?_
            refine r_icmp_ne hb 68 75 dX0_choose_65 rfl (by decide) (by omega) (by omega) (fun c65 => ?_) (fun c65 => ?_)
            · refine r_iinc [(5, .int (iI ((((fr + k : Nat) : Nat) : Int) + 1))), (6, .int (iI ((sc (fr + k))))), (4, .int (iI (((chS sc b (sm fr) fr k).1)))), (3, .int (iI (((chS sc b (sm fr) fr k).2)))), (0, .ref q), (1, .int (iI (((fr : Nat) : Int)))), (2, .ref r)] hb 78 7 1 dX0_choose_75 rfl rfl hnL (by decide) ((((fr + k : Nat) : Nat) : Int) + 1) (by omega) rfl ?_
              refine r_goto hb 16 dX0_choose_78 (by decide) ?_
              have e : chS sc b (sm fr) fr (k + 1) = chS sc b (sm fr) fr k := by simp only [chS]; rw [if_neg (by omega)]
              refine r_lv [(5, .int (iI (((fr + (k + 1) : Nat)) : Int))), (4, .int (iI (chS sc b (sm fr) fr (k + 1)).1)), (3, .int (iI (chS sc b (sm fr) fr (k + 1)).2)), (0, .ref q), (1, .int (iI ((fr : Nat) : Int))), (2, .ref r)] [0, 2, 3, 4, 5, 6] (by rw [e]; rfl) ?_
              exact ih_lp (sz - (fr + (k + 1))) (by omega) (k + 1) rfl (by omega)
            · refine r_iload hb 70 dX0_choose_68 rfl 0 rfl ?_
              refine r_istore [(4, .int (iI ((sc (fr + k))))), (6, .int (iI ((sc (fr + k))))), (5, .int (iI ((((fr + k : Nat) : Nat) : Int)))), (3, .int (iI (((chS sc b (sm fr) fr k).2)))), (0, .ref q), (1, .int (iI (((fr : Nat) : Int)))), (2, .ref r)] hb 72 7 dX0_choose_70 rfl hnL (by decide) rfl ?_
              refine r_iload hb 74 dX0_choose_72 rfl 2 rfl ?_
              refine r_istore_n [(3, .int (iI ((((fr + k : Nat) : Nat) : Int)))), (4, .int (iI ((sc (fr + k))))), (6, .int (iI ((sc (fr + k))))), (5, .int (iI ((((fr + k : Nat) : Nat) : Int)))), (0, .ref q), (1, .int (iI (((fr : Nat) : Int)))), (2, .ref r)] hb 75 7 dX0_choose_74 rfl rfl hnL (by decide) rfl ?_
              refine r_iinc [(5, .int (iI ((((fr + k : Nat) : Nat) : Int) + 1))), (3, .int (iI ((((fr + k : Nat) : Nat) : Int)))), (4, .int (iI ((sc (fr + k))))), (6, .int (iI ((sc (fr + k))))), (0, .ref q), (1, .int (iI (((fr : Nat) : Int)))), (2, .ref r)] hb 78 7 3 dX0_choose_75 rfl rfl hnL (by decide) ((((fr + k : Nat) : Nat) : Int) + 1) (by omega) rfl ?_
              refine r_goto hb 16 dX0_choose_78 (by decide) ?_
              have e : chS sc b (sm fr) fr (k + 1) = (sc (fr + k), ((fr + k : Nat) : Int)) := by simp only [chS]; rw [if_pos ⟨by omega, by omega⟩]
              refine r_lv [(5, .int (iI (((fr + (k + 1) : Nat)) : Int))), (4, .int (iI (chS sc b (sm fr) fr (k + 1)).1)), (3, .int (iI (chS sc b (sm fr) fr (k + 1)).2)), (0, .ref q), (1, .int (iI ((fr : Nat) : Int))), (2, .ref r)] [0, 2, 1, 4, 5, 6] (by rw [e]; rfl) ?_
              exact ih_lp (sz - (fr + (k + 1))) (by omega) (k + 1) rfl (by omega)
  refine r_lv [(5, .int (iI (((fr + 0 : Nat)) : Int))), (4, .int (iI (chS sc b (sm fr) fr 0).1)), (3, .int (iI (chS sc b (sm fr) fr 0).2)), (0, .ref q), (1, .int (iI ((fr : Nat) : Int))), (2, .ref r)] [0, 1, 2, 3, 4, 5] rfl ?_
  exact lp _ 0 rfl (Or.inl rfl)

abbrev rm_X0_init : Room := { frames := 1, cells := 3, slots := 361, locals := 12 }
set_option maxHeartbeats 4000000 in
set_option maxRecDepth 100000 in
theorem c_X0_init (q : Nat) {w : PW}  (h0 : w q = some (eO 0 [.null, .null, .null, .int (iI 0)])) : Ct0 yX0_init cX0_init 1 none rm_X0_init [.ref q] w (q + 1) (fun w1 n1 => n1 = q + 4 ∧ chp w1 q 0 (fun _ => 0) (fun _ => 0) (fun _ => 0) ∧ off w w1 q (q + 4)) := by
  refine Ctr.of rfl (Nat.le_of_ble_eq_true rfl) fun S hS => ?_
  have hb : S.1.1 = cX0_init := by rw [hS]; rfl
  have ho : S.1.2.1 = RX0 := by rw [hS]; rfl
  have hnL : S.1.2.2.1 = 1 := by rw [hS]; rfl
  have hR0 : S.2.1 = rm_X0_init := by rw [hS]; rfl
  have hnm : S.1.2.2.2.2 = "<init>" := by rw [hS]; rfl
  show Wp S 0 [(0, .ref q)] [] w (q + 1) 0 0
  refine r_aload_n hb 1 dX0_init_0 rfl 0 rfl ?_
  refine r_objInit hb ho 4 dX0_init_1 rfl ck_X0_3 ob_i ob_c (by rw [hR0]; exact Nat.le_of_ble_eq_true rfl) (by rw [hR0]; exact Nat.le_of_ble_eq_true rfl) ?_
  refine r_aload_n hb 5 dX0_init_4 rfl 0 rfl ?_
  refine r_bipush 120 hb 7 dX0_init_5 rfl rfl ?_
  refine r_newI (N := 120) hb 9 dX0_init_7 rfl ka_int (rfl) (by omega) (by rw [hR0]; exact Nat.le_of_ble_eq_true rfl) (by rw [hR0]; exact Nat.le_of_ble_eq_true rfl) (fun w_7 hw_7 => ?_)
  have ow_7 := pset_off hw_7
  have fw_7 : w_7 (q + 1) = some (eI 120 (fun _ => 0)) := by rw [hw_7]; exact pset_eq _ _ _
  have h0 : w_7 q = some (eO 0 [.null, .null, .null, .int (iI 0)]) := (ow_7 _ (by omega)).trans h0
  refine r_putF hb ho hnm rfl 12 dX0_init_9 rfl lkw_X0_9 pf_X0_0 h0 (Nat.le_of_ble_eq_true rfl) ⟨rfl, rfl⟩ (fun w_9 hw_9 => ?_)
  have ow_9 := pset_off hw_9
  have xw_9 : w_9 q = some (eO 0 [.ref ((q + 1)), .null, .null, .int (iI 0)]) := by rw [hw_9]; exact pset_eq _ _ _
  have fw_7 : w_9 (q + 1) = some (eI 120 (fun _ => 0)) := (ow_9 _ (by omega)).trans fw_7
  refine r_aload_n hb 13 dX0_init_12 rfl 0 rfl ?_
  refine r_bipush 120 hb 15 dX0_init_13 rfl rfl ?_
  refine r_newI (N := 120) hb 17 dX0_init_15 rfl ka_int (rfl) (by omega) (by rw [hR0]; exact Nat.le_of_ble_eq_true rfl) (by rw [hR0]; exact Nat.le_of_ble_eq_true rfl) (fun w_15 hw_15 => ?_)
  have ow_15 := pset_off hw_15
  have fw_15 : w_15 (q + 2) = some (eI 120 (fun _ => 0)) := by rw [hw_15]; exact pset_eq _ _ _
  have xw_9 : w_15 q = some (eO 0 [.ref ((q + 1)), .null, .null, .int (iI 0)]) := (ow_15 _ (by omega)).trans xw_9
  have fw_7 : w_15 (q + 1) = some (eI 120 (fun _ => 0)) := (ow_15 _ (by omega)).trans fw_7
  refine r_putF hb ho hnm rfl 20 dX0_init_17 rfl lkw_X0_15 pf_X0_1 xw_9 (Nat.le_of_ble_eq_true rfl) ⟨rfl, rfl⟩ (fun w_17 hw_17 => ?_)
  have ow_17 := pset_off hw_17
  have xw_17 : w_17 q = some (eO 0 [.ref ((q + 1)), .ref ((q + 2)), .null, .int (iI 0)]) := by rw [hw_17]; exact pset_eq _ _ _
  have fw_15 : w_17 (q + 2) = some (eI 120 (fun _ => 0)) := (ow_17 _ (by omega)).trans fw_15
  have fw_7 : w_17 (q + 1) = some (eI 120 (fun _ => 0)) := (ow_17 _ (by omega)).trans fw_7
  refine r_aload_n hb 21 dX0_init_20 rfl 0 rfl ?_
  refine r_bipush 121 hb 23 dX0_init_21 rfl rfl ?_
  refine r_newI (N := 121) hb 25 dX0_init_23 rfl ka_int (rfl) (by omega) (by rw [hR0]; exact Nat.le_of_ble_eq_true rfl) (by rw [hR0]; exact Nat.le_of_ble_eq_true rfl) (fun w_23 hw_23 => ?_)
  have ow_23 := pset_off hw_23
  have fw_23 : w_23 (q + 3) = some (eI 121 (fun _ => 0)) := by rw [hw_23]; exact pset_eq _ _ _
  have xw_17 : w_23 q = some (eO 0 [.ref ((q + 1)), .ref ((q + 2)), .null, .int (iI 0)]) := (ow_23 _ (by omega)).trans xw_17
  have fw_15 : w_23 (q + 2) = some (eI 120 (fun _ => 0)) := (ow_23 _ (by omega)).trans fw_15
  have fw_7 : w_23 (q + 1) = some (eI 120 (fun _ => 0)) := (ow_23 _ (by omega)).trans fw_7
  refine r_putF hb ho hnm rfl 28 dX0_init_25 rfl lkw_X0_18 pf_X0_2 xw_17 (Nat.le_of_ble_eq_true rfl) ⟨rfl, rfl⟩ (fun w_25 hw_25 => ?_)
  have ow_25 := pset_off hw_25
  have xw_25 : w_25 q = some (eO 0 [.ref ((q + 1)), .ref ((q + 2)), .ref ((q + 3)), .int (iI 0)]) := by rw [hw_25]; exact pset_eq _ _ _
  have fw_23 : w_25 (q + 3) = some (eI 121 (fun _ => 0)) := (ow_25 _ (by omega)).trans fw_23
  have fw_15 : w_25 (q + 2) = some (eI 120 (fun _ => 0)) := (ow_25 _ (by omega)).trans fw_15
  have fw_7 : w_25 (q + 1) = some (eI 120 (fun _ => 0)) := (ow_25 _ (by omega)).trans fw_7
  refine r_vret hS dX0_init_28 rfl (Nat.le_of_ble_eq_true rfl) (Nat.le_of_ble_eq_true rfl) ?_
  exact ⟨rfl, rfl, ⟨xw_25, fw_7, fw_15, fw_23⟩, (((((ow_7.mono (by omega) (by omega)).trans (ow_9.mono (by omega) (by omega))).trans (ow_15.mono (by omega) (by omega))).trans (ow_17.mono (by omega) (by omega))).trans (ow_23.mono (by omega) (by omega))).trans (ow_25.mono (by omega) (by omega))⟩
