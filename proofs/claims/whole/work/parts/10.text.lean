abbrev rm_X7_at : Room := { frames := 0, cells := 0, slots := 0, locals := 0 }
set_option maxHeartbeats 4000000 in
set_option maxRecDepth 100000 in
/-- Text.at -/
theorem c_X7_at (t R : Nat) (L : List Int32) (z : Int) {w : PW} {n : Nat} (hT : tx w t R L) (hR : R ≤ 200) (hz : -2147483648 ≤ z ∧ z < 2147483648) : CtR yX7_at cX7_at 2 (some .int) rm_X7_at [.ref t, .int (iI (z))] w n (.int (textAt L z)) := by
  obtain ⟨f0, f1, g, f2, f3⟩ := id hT
  refine Ctr.of rfl (Nat.le_of_ble_eq_true rfl) fun S hS => ?_
  have hb : S.1.1 = cX7_at := by rw [hS]; rfl
  have ho : S.1.2.1 = RX7 := by rw [hS]; rfl
  have hnL : S.1.2.2.1 = 2 := by rw [hS]; rfl
  have hR0 : S.2.1 = rm_X7_at := by rw [hS]; rfl
  show Wp S 0 [(0, .ref t), (1, .int (iI (z)))] [] w n 0 0
  refine r_iload_n hb 1 dX7_at_0 rfl 1 rfl ?_
  refine r_if_lt hb 4 30 dX7_at_1 rfl (by decide) (by omega) (fun c1 => ?_) (fun c1 => ?_)
  · refine r_iconst hb 31 dX7_at_30 rfl ?_
    refine r_iret hS dX7_at_31 rfl rfl (Nat.zero_le _) (Nat.zero_le _) ?_
    exact ⟨_, rfl, congrArg Value.int (textAt_out (by omega)).symm, rfl, rfl⟩
  · refine r_iload_n hb 5 dX7_at_4 rfl 1 rfl ?_
    refine r_aload_n hb 6 dX7_at_5 rfl 0 rfl ?_
    refine r_get hb ho 9 dX7_at_6 rfl lk_X7_21 pf_X7_1 f0 rfl ?_
    refine r_icmp_ge hb 12 30 dX7_at_9 rfl (by decide) (by omega) (by omega) (fun c9 => ?_) (fun c9 => ?_)
    · refine r_iconst hb 31 dX7_at_30 rfl ?_
      refine r_iret hS dX7_at_31 rfl rfl (Nat.zero_le _) (Nat.zero_le _) ?_
      exact ⟨_, rfl, congrArg Value.int (textAt_out (by omega)).symm, rfl, rfl⟩
    · refine r_iload_n hb 13 dX7_at_12 rfl 1 rfl ?_
      refine r_aload_n hb 14 dX7_at_13 rfl 0 rfl ?_
      refine r_get hb ho 17 dX7_at_14 rfl lk_X7_15 pf_X7_0 f0 rfl ?_
      refine r_alen hb 18 dX7_at_17 rfl f2 (by decide) (((R : Nat) : Int)) rfl ?_
      refine r_icmp_ge hb 21 30 dX7_at_18 rfl (by decide) (by omega) (by omega) (fun c18 => ?_) (fun c18 => ?_)
      · exfalso; omega
      · refine r_aload_n hb 22 dX7_at_21 rfl 0 rfl ?_
        refine r_get hb ho 25 dX7_at_22 rfl lk_X7_15 pf_X7_0 f0 rfl ?_
        refine r_iload_n hb 26 dX7_at_25 rfl 1 rfl ?_
        refine r_iald hb 27 dX7_at_26 rfl f2 (((z)).toNat) (by omega) (⟨by omega, by omega⟩) ?_
        refine r_goto hb 31 dX7_at_27 (by decide) ?_
        refine r_iret hS dX7_at_31 rfl rfl (Nat.zero_le _) (Nat.zero_le _) ?_
        exact ⟨_, rfl, congrArg Value.int ((textAt_in (by omega) (by omega)).trans (f3 _ (by omega)).symm).symm, rfl, rfl⟩

abbrev rm_X7_empty : Room := { frames := 0, cells := 0, slots := 0, locals := 0 }
set_option maxHeartbeats 4000000 in
set_option maxRecDepth 100000 in
theorem c_X7_empty (t R : Nat) (L : List Int32) {w : PW} {n : Nat} (hT : tx w t R L) : Ct0 yX7_empty cX7_empty 1 none rm_X7_empty [.ref t] w n (fun w1 n1 => n1 = n ∧ tx w1 t R [] ∧ off w w1 t (t + 2)) := by
  obtain ⟨f0, f1, g, f2, f3⟩ := id hT
  refine Ctr.of rfl (Nat.le_of_ble_eq_true rfl) fun S hS => ?_
  have hb : S.1.1 = cX7_empty := by rw [hS]; rfl
  have ho : S.1.2.1 = RX7 := by rw [hS]; rfl
  have hnL : S.1.2.2.1 = 1 := by rw [hS]; rfl
  have hR0 : S.2.1 = rm_X7_empty := by rw [hS]; rfl
  show Wp S 0 [(0, .ref t)] [] w n 0 0
  refine r_aload_n hb 1 dX7_empty_0 rfl 0 rfl ?_
  refine r_iconst hb 2 dX7_empty_1 rfl ?_
  refine r_put hb ho 5 dX7_empty_2 rfl lk_X7_21 pf_X7_1 f0 (Nat.le_of_ble_eq_true rfl) ⟨rfl, rfl⟩ (fun w_1 hw_1 => ?_)
  have ow_1 := pset_off hw_1
  have xw_1 : w_1 t = some (eO 7 [.ref (t + 1), .int (iI 0)]) := by rw [hw_1]; exact pset_eq _ _ _
  have f2 : w_1 (t + 1) = some (eI R g) := (ow_1 _ (by omega)).trans f2
  refine r_vret hS dX7_empty_5 rfl (Nat.zero_le _) (Nat.zero_le _) ?_
  exact ⟨rfl, rfl, ⟨xw_1, Nat.zero_le _, g, f2, fun i hi => absurd hi (Nat.not_lt_zero _)⟩, ow_1.mono (by omega) (by omega)⟩

abbrev rm_X7_append : Room := { frames := 0, cells := 0, slots := 0, locals := 0 }
set_option maxHeartbeats 4000000 in
set_option maxRecDepth 100000 in
theorem c_X7_append (t R : Nat) (L : List Int32) (x : Int32) {w : PW} {n : Nat} (hT : tx w t R L) (hR : R ≤ 200) (hr : L.length < R) : Ct0 yX7_append cX7_append 2 none rm_X7_append [.ref t, .int x] w n (fun w1 n1 => n1 = n ∧ tx w1 t R (L ++ [x]) ∧ off w w1 t (t + 2)) := by
  obtain ⟨f0, f1, g, f2, f3⟩ := id hT
  refine Ctr.of rfl (Nat.le_of_ble_eq_true rfl) fun S hS => ?_
  have hb : S.1.1 = cX7_append := by rw [hS]; rfl
  have ho : S.1.2.1 = RX7 := by rw [hS]; rfl
  have hnL : S.1.2.2.1 = 2 := by rw [hS]; rfl
  have hR0 : S.2.1 = rm_X7_append := by rw [hS]; rfl
  show Wp S 0 [(0, .ref t), (1, .int x)] [] w n 0 0
  refine r_aload_n hb 1 dX7_append_0 rfl 0 rfl ?_
  refine r_get hb ho 4 dX7_append_1 rfl lk_X7_21 pf_X7_1 f0 rfl ?_
  refine r_if_lt hb 7 39 dX7_append_4 rfl (by decide) (by omega) (fun c4 => ?_) (fun c4 => ?_)
  · exfalso; omega
  · refine r_aload_n hb 8 dX7_append_7 rfl 0 rfl ?_
    refine r_get hb ho 11 dX7_append_8 rfl lk_X7_21 pf_X7_1 f0 rfl ?_
    refine r_aload_n hb 12 dX7_append_11 rfl 0 rfl ?_
    refine r_get hb ho 15 dX7_append_12 rfl lk_X7_15 pf_X7_0 f0 rfl ?_
    refine r_alen hb 16 dX7_append_15 rfl f2 (by decide) (((R : Nat) : Int)) rfl ?_
    refine r_icmp_ge hb 19 39 dX7_append_16 rfl (by decide) (by omega) (by omega) (fun c16 => ?_) (fun c16 => ?_)
    · exfalso; omega
    · refine r_aload_n hb 20 dX7_append_19 rfl 0 rfl ?_
      refine r_get hb ho 23 dX7_append_20 rfl lk_X7_15 pf_X7_0 f0 rfl ?_
      refine r_aload_n hb 24 dX7_append_23 rfl 0 rfl ?_
      refine r_get hb ho 27 dX7_append_24 rfl lk_X7_21 pf_X7_1 f0 rfl ?_
      refine r_iload_n hb 28 dX7_append_27 rfl 1 rfl ?_
      refine r_iast hb 29 dX7_append_28 rfl f2 L.length (by omega) (⟨by omega, by omega⟩) (fun w_1 hw_1 => ?_)
      have ow_1 := pset_off hw_1
      have xw_1 : w_1 (t + 1) = some (eI R (upd g L.length (x))) := by rw [hw_1]; exact pset_eq _ _ _
      have f0 : w_1 t = some (eO 7 [.ref (t + 1), .int (iI (((L.length : Nat) : Int)))]) := (ow_1 _ (by omega)).trans f0
      refine r_aload_n hb 30 dX7_append_29 rfl 0 rfl ?_
      refine r_dup hb 31 dX7_append_30 rfl rfl ?_
      refine r_get hb ho 34 dX7_append_31 rfl lk_X7_21 pf_X7_1 f0 rfl ?_
      refine r_iconst hb 35 dX7_append_34 rfl ?_
      refine r_iaddZ hb 36 (((L.length : Nat) : Int) + 1) dX7_append_35 rfl (by omega) ?_
      refine r_put hb ho 39 dX7_append_36 rfl lk_X7_21 pf_X7_1 f0 (Nat.le_of_ble_eq_true rfl) ⟨rfl, rfl⟩ (fun w_2 hw_2 => ?_)
      have ow_2 := pset_off hw_2
      have xw_2 : w_2 t = some (eO 7 [.ref (t + 1), .int (iI (((L.length : Nat) : Int) + 1))]) := by rw [hw_2]; exact pset_eq _ _ _
      have xw_1 : w_2 (t + 1) = some (eI R (upd g L.length (x))) := (ow_2 _ (by omega)).trans xw_1
      refine r_vret hS dX7_append_39 rfl (Nat.zero_le _) (Nat.zero_le _) ?_
      refine ⟨rfl, rfl, ⟨?_, by simp; omega, _, xw_1, ?_⟩, (ow_1.mono (by omega) (by omega)).trans (ow_2.mono (by omega) (by omega))⟩
      · rw [xw_2]
        simp [List.length_append]
      · intro i hi
        rw [List.length_append] at hi
        by_cases h : i = L.length
        · subst h
          rw [getD_app2 _ _ (by omega)]
          simp [upd]
        · have h2 : i < L.length := by simp at hi; omega
          rw [getD_app1 _ _ h2, ← f3 i h2]
          simp [upd, h]

abbrev rm_X7_copyPart : Room := { frames := 1, cells := 0, slots := 0, locals := 21 }
set_option maxHeartbeats 4000000 in
set_option maxRecDepth 100000 in
theorem c_X7_copyPart (t R u Ru : Nat) (L M : List Int32) (a b : Int) (a0 b0 : Nat) {w : PW} {n : Nat} (hT : tx w t R L) (hM : tx w u Ru M) (hR : R ≤ 200) (hRu : Ru ≤ 200) (hd : t + 2 ≤ u ∨ u + 2 ≤ t) (ha : -2147483648 ≤ a ∧ a < 2147483648) (hbb : -2147483648 ≤ b ∧ b < 2147483648) (ha0 : (if 0 < a then a else 0) = (a0 : Int)) (hb0 : (if 0 < b then b else 0) = (b0 : Int)) (hlen : min b0 M.length - a0 ≤ R) : Ct0 yX7_copyPart cX7_copyPart 5 none rm_X7_copyPart [.ref t, .ref u, .int (iI (a)), .int (iI (b))] w n (fun w1 n1 => n1 = n ∧ tx w1 t R (slice M a0 b0) ∧ off w w1 t (t + 2)) := by
  obtain ⟨f0, f1, g, f2, f3⟩ := id hT
  refine Ctr.of rfl (Nat.le_of_ble_eq_true rfl) fun S hS => ?_
  have hb : S.1.1 = cX7_copyPart := by rw [hS]; rfl
  have ho : S.1.2.1 = RX7 := by rw [hS]; rfl
  have hnL : S.1.2.2.1 = 5 := by rw [hS]; rfl
  have hR0 : S.2.1 = rm_X7_copyPart := by rw [hS]; rfl
  show Wp S 0 [(0, .ref t), (1, .ref u), (2, .int (iI (a))), (3, .int (iI (b)))] [] w n 0 0
  refine r_aload_n hb 1 dX7_copyPart_0 rfl 0 rfl ?_
  refine r_iconst hb 2 dX7_copyPart_1 rfl ?_
  refine r_put hb ho 5 dX7_copyPart_2 rfl lk_X7_21 pf_X7_1 f0 (Nat.le_of_ble_eq_true rfl) ⟨rfl, rfl⟩ (fun w_1 hw_1 => ?_)
  have ow_1 := pset_off hw_1
  have xw_1 : w_1 t = some (eO 7 [.ref (t + 1), .int (iI 0)]) := by rw [hw_1]; exact pset_eq _ _ _
  have f2 : w_1 (t + 1) = some (eI R g) := (ow_1 _ (by omega)).trans f2
  have hM : tx w_1 u Ru M := hM.off ow_1 (by omega)
  refine r_iconst hb 6 dX7_copyPart_5 rfl ?_
  refine r_iload_n hb 7 dX7_copyPart_6 rfl 2 rfl ?_
  refine r_max hb ho 10 dX7_copyPart_7 rfl ck_X7_9 (by rw [hR0]; decide) (by rw [hR0]; exact Nat.le_of_ble_eq_true rfl) (by rw [hR0]; exact Nat.zero_le _) (by rw [hR0]; exact Nat.zero_le _) (by omega) (by omega) (((a0 : Nat) : Int)) (by omega) ?_
  refine r_istore [(4, .int (iI (((a0 : Nat) : Int)))), (0, .ref t), (1, .ref u), (2, .int (iI (a))), (3, .int (iI (b)))] hb 12 5 dX7_copyPart_10 rfl hnL (by decide) rfl ?_
  have lp : ∀ (d : Nat) (i : Nat) (wi : PW), M.length + 300 - i = d → (a0 ≤ i) → ((b0 ≤ a0 ∧ i = a0) ∨ i ≤ b0) → ((M.length ≤ a0 ∧ i = a0) ∨ i ≤ M.length) → (i < 2147483648) → (tx wi t R (slice M a0 i)) → (tx wi u Ru M) → (off w wi t (t + 2)) → Wp S 12 [(4, .int (iI (((i : Nat) : Int)))), (0, .ref t), (1, .ref u), (2, .int (iI (a))), (3, .int (iI (b)))] [] wi n 0 0 := by
    intro d
    induction d using Nat.strongRecOn with
    | _ d ih_lp =>
      intro i wi hd_lp hi hib him hiB hT1 hM hO
      have hM0 := hM.1
      have hMl := hM.2.1
      refine r_iload hb 14 dX7_copyPart_12 rfl 0 rfl ?_
      refine r_iload_n hb 15 dX7_copyPart_14 rfl 4 rfl ?_
      refine r_icmp_ge hb 18 43 dX7_copyPart_15 rfl (by decide) (by omega) (by omega) (fun c15 => ?_) (fun c15 => ?_)
      · refine r_vret hS dX7_copyPart_43 rfl (Nat.zero_le _) (Nat.zero_le _) ?_
        have e : slice M a0 i = slice M a0 b0 := by
          rcases Nat.lt_or_ge a0 b0 with h | h
          · first | (rw [show i = b0 by omega]) | exact slice_more M (by omega) (by omega)
          · rw [slice_nil M h]; first | rw [slice_nil M (by omega)] | (apply List.eq_nil_of_length_eq_zero; rw [slice_len]; omega)
        exact ⟨rfl, rfl, e ▸ hT1, hO⟩
      · refine r_iload hb 20 dX7_copyPart_18 rfl 0 rfl ?_
        refine r_aload_n hb 21 dX7_copyPart_20 rfl 2 rfl ?_
        refine r_get hb ho 24 dX7_copyPart_21 rfl lk_X7_21 pf_X7_1 hM0 rfl ?_
        refine r_icmp_ge hb 27 43 dX7_copyPart_24 rfl (by decide) (by omega) (by omega) (fun c24 => ?_) (fun c24 => ?_)
        · refine r_vret hS dX7_copyPart_43 rfl (Nat.zero_le _) (Nat.zero_le _) ?_
          have e : slice M a0 i = slice M a0 b0 := by
            rcases Nat.lt_or_ge a0 b0 with h | h
            · first | (rw [show i = b0 by omega]) | exact slice_more M (by omega) (by omega)
            · rw [slice_nil M h]; first | rw [slice_nil M (by omega)] | (apply List.eq_nil_of_length_eq_zero; rw [slice_len]; omega)
          exact ⟨rfl, rfl, e ▸ hT1, hO⟩
        · refine r_aload_n hb 28 dX7_copyPart_27 rfl 1 rfl ?_
          refine r_aload_n hb 29 dX7_copyPart_28 rfl 2 rfl ?_
          refine r_iload hb 31 dX7_copyPart_29 rfl 0 rfl ?_
          refine r_callVR (st := [.ref t]) hb ho 34 dX7_copyPart_31 rfl ck_X7_29 (c_X7_at (u) Ru M (((i : Nat) : Int)) hM (hRu) (by omega)) rfl rfl (hM0) rfl rfl (by rw [hR0]; exact ⟨by decide, by decide⟩) (Nat.le_of_ble_eq_true rfl) ⟨rfl, rfl⟩ (by rw [hR0]; exact Nat.zero_le _) (by rw [hR0]; exact Nat.zero_le _) ?_
          refine r_callV0 (st := []) hb ho 37 dX7_copyPart_34 rfl ck_X7_33 (c_X7_append t R (slice M a0 i) (textAt M (i : Int)) hT1 hR (by rw [slice_len]; omega)) rfl rfl (hT1.1) rfl rfl (by rw [hR0]; exact ⟨by decide, by decide⟩) (Nat.le_of_ble_eq_true rfl) ⟨rfl, rfl⟩ (by rw [hR0]; exact Nat.zero_le _) (by rw [hR0]; exact Nat.zero_le _) (fun w_2 nw_2 qw_2 => ?_)
          obtain ⟨rfl, hT1, ow_2⟩ := qw_2
          have hO := hO.trans (ow_2.mono (by omega) (by omega))
          have hM : tx w_2 u Ru M := hM.off ow_2 (by omega)
          have hM0 : w_2 u = some (eO 7 [.ref (u + 1), .int (iI (((M.length : Nat) : Int)))]) := (ow_2 _ (by omega)).trans hM0
          rw [textAt_nat (by omega)] at hT1
          refine r_iinc [(4, .int (iI (((i : Nat) : Int) + 1))), (0, .ref t), (1, .ref u), (2, .int (iI (a))), (3, .int (iI (b)))] hb 40 5 0 dX7_copyPart_37 rfl rfl hnL (by decide) (((i : Nat) : Int) + 1) (by omega) rfl ?_
          refine r_goto hb 12 dX7_copyPart_40 (by decide) ?_
          refine r_lv [(4, .int (iI (((i + 1 : Nat)) : Int))), (0, .ref t), (1, .ref u), (2, .int (iI a)), (3, .int (iI b))] [0, 1, 2, 3, 4] rfl ?_
          exact ih_lp (M.length + 300 - (i + 1)) (by omega) (i + 1) _ rfl (by omega) (by omega) (by omega) (by omega) (by rw [slice_add M hi (by omega)]; exact hT1) hM hO
  have hMl := hM.2.1
  refine r_lv [(4, .int (iI ((a0 : Nat) : Int))), (0, .ref t), (1, .ref u), (2, .int (iI a)), (3, .int (iI b))] [0, 1, 2, 3, 4] rfl ?_
  exact lp _ a0 _ rfl (Nat.le_refl _) (by omega) (by omega) (by omega) (by rw [slice_nil M (Nat.le_refl _)]; exact ⟨xw_1, Nat.zero_le _, g, f2, fun i hi => absurd hi (Nat.not_lt_zero _)⟩) hM (ow_1.mono (by omega) (by omega))

abbrev rm_X7_become : Room := { frames := 2, cells := 0, slots := 0, locals := 45 }
set_option maxHeartbeats 4000000 in
set_option maxRecDepth 100000 in
theorem c_X7_become (t R u Ru : Nat) (L M : List Int32) {w : PW} {n : Nat} (hT : tx w t R L) (hM : tx w u Ru M) (hR : R ≤ 200) (hRu : Ru ≤ 200) (hd : t + 2 ≤ u ∨ u + 2 ≤ t) (hlen : M.length ≤ R) : Ct0 yX7_become cX7_become 2 none rm_X7_become [.ref t, .ref u] w n (fun w1 n1 => n1 = n ∧ tx w1 t R M ∧ off w w1 t (t + 2)) := by
  have hM0 := hM.1
  have hMl := hM.2.1
  have hT0 := hT.1
  refine Ctr.of rfl (Nat.le_of_ble_eq_true rfl) fun S hS => ?_
  have hb : S.1.1 = cX7_become := by rw [hS]; rfl
  have ho : S.1.2.1 = RX7 := by rw [hS]; rfl
  have hnL : S.1.2.2.1 = 2 := by rw [hS]; rfl
  have hR0 : S.2.1 = rm_X7_become := by rw [hS]; rfl
  show Wp S 0 [(0, .ref t), (1, .ref u)] [] w n 0 0
  refine r_aload_n hb 1 dX7_become_0 rfl 0 rfl ?_
  refine r_aload_n hb 2 dX7_become_1 rfl 1 rfl ?_
  refine r_iconst hb 3 dX7_become_2 rfl ?_
  refine r_aload_n hb 4 dX7_become_3 rfl 1 rfl ?_
  refine r_get hb ho 7 dX7_become_4 rfl lk_X7_21 pf_X7_1 hM0 rfl ?_
  refine r_callV0 (st := []) hb ho 10 dX7_become_7 rfl ck_X7_25 (c_X7_copyPart t R u Ru L M 0 _ 0 M.length hT hM hR hRu hd (by omega) (by omega) rfl (by omega) (by omega)) rfl rfl (hT0) rfl rfl (by rw [hR0]; exact ⟨by decide, by decide⟩) (Nat.le_of_ble_eq_true rfl) ⟨rfl, rfl⟩ (by rw [hR0]; exact Nat.zero_le _) (by rw [hR0]; exact Nat.zero_le _) (fun w_1 nw_1 qw_1 => ?_)
  obtain ⟨rfl, hT1, hO⟩ := qw_1
  refine r_vret hS dX7_become_10 rfl (Nat.zero_le _) (Nat.zero_le _) ?_
  rw [slice_all] at hT1
  exact ⟨rfl, rfl, hT1, hO⟩
