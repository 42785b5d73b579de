abbrev rm_X7_at : Room := { frames := 0, cells := 0, slots := 0, locals := 0 }
set_option maxHeartbeats 4000000 in
set_option maxRecDepth 100000 in
/-- Text.at -/
theorem c_X7_at (t R : Nat) (L : List Int32) (z : Int) {w : PW} {n : Nat} (hT : tx w t R L) (hR : R ≤ 200) (hz : -2147483648 ≤ z ∧ z < 2147483648) : CtR yX7_at cX7_at 2 (some .int) rm_X7_at [.ref t, .int (iI (z))] w n (.int (textAt L z)) := by
  obtain ⟨f0, f1, g, f2, f3⟩ := id hT
  refine Ctr.of rfl (Nat.le_of_ble_eq_true rfl) fun S hS => ?_
  have hb : S.1.1 = cX7_at := by rw [hS]; rfl
  have ho : S.1.2.1 = RX7 := by rw [hS]; rfl
  have hnL : S.1.2.2.1 = 2 := by rw [hS]; rfl
  have hR0 : S.2.1 = rm_X7_at := by rw [hS]; rfl
  show Wp S 0 [(0, .ref t), (1, .int (iI (z)))] [] w n 0 0
  refine r_iload_n hb 1 dX7_at_0 rfl 1 rfl ?_
  refine r_if_lt hb 4 30 dX7_at_1 rfl (by decide) (by omega) (fun c1 => ?_) (fun c1 => ?_)
  · refine r_iconst hb 31 dX7_at_30 rfl ?_
    refine r_iret hS dX7_at_31 rfl rfl (Nat.zero_le _) (Nat.zero_le _) ?_
    exact ⟨_, rfl, congrArg Value.int (textAt_out (by omega)).symm, rfl, rfl⟩
  · refine r_iload_n hb 5 dX7_at_4 rfl 1 rfl ?_
    refine r_aload_n hb 6 dX7_at_5 rfl 0 rfl ?_
    refine r_get hb ho 9 dX7_at_6 rfl lk_X7_21 pf_X7_1 f0 rfl ?_
    refine r_icmp_ge hb 12 30 dX7_at_9 rfl (by decide) (by omega) (by omega) (fun c9 => ?_) (fun c9 => ?_)
    · refine r_iconst hb 31 dX7_at_30 rfl ?_
      refine r_iret hS dX7_at_31 rfl rfl (Nat.zero_le _) (Nat.zero_le _) ?_
      exact ⟨_, rfl, congrArg Value.int (textAt_out (by omega)).symm, rfl, rfl⟩
    · refine r_iload_n hb 13 dX7_at_12 rfl 1 rfl ?_
      refine r_aload_n hb 14 dX7_at_13 rfl 0 rfl ?_
      refine r_get hb ho 17 dX7_at_14 rfl lk_X7_15 pf_X7_0 f0 rfl ?_
      refine r_alen hb 18 dX7_at_17 rfl f2 (by decide) (((R : Nat) : Int)) rfl ?_
      refine r_icmp_ge hb 21 30 dX7_at_18 rfl (by decide) (by omega) (by omega) (fun c18 => ?_) (fun c18 => ?_)
      · exfalso; omega
      · refine r_aload_n hb 22 dX7_at_21 rfl 0 rfl ?_
        refine r_get hb ho 25 dX7_at_22 rfl lk_X7_15 pf_X7_0 f0 rfl ?_
        refine r_iload_n hb 26 dX7_at_25 rfl 1 rfl ?_
        refine r_iald hb 27 dX7_at_26 rfl f2 (((z)).toNat) (by omega) (⟨by omega, by omega⟩) ?_
        refine r_goto hb 31 dX7_at_27 (by decide) ?_
        refine r_iret hS dX7_at_31 rfl rfl (Nat.zero_le _) (Nat.zero_le _) ?_
        exact ⟨_, rfl, congrArg Value.int ((textAt_in (by omega) (by omega)).trans (f3 _ (by omega)).symm).symm, rfl, rfl⟩

abbrev rm_X7_empty : Room := { frames := 0, cells := 0, slots := 0, locals := 0 }
set_option maxHeartbeats 4000000 in
set_option maxRecDepth 100000 in
theorem c_X7_empty (t R : Nat) (L : List Int32) {w : PW} {n : Nat} (hT : tx w t R L) : Ct0 yX7_empty cX7_empty 1 none rm_X7_empty [.ref t] w n (fun w1 n1 => n = n1 ∧ tx w1 t R [] ∧ off w w1 t (t + 2)) := by
  obtain ⟨f0, f1, g, f2, f3⟩ := id hT
  refine Ctr.of rfl (Nat.le_of_ble_eq_true rfl) fun S hS => ?_
  have hb : S.1.1 = cX7_empty := by rw [hS]; rfl
  have ho : S.1.2.1 = RX7 := by rw [hS]; rfl
  have hnL : S.1.2.2.1 = 1 := by rw [hS]; rfl
  have hR0 : S.2.1 = rm_X7_empty := by rw [hS]; rfl
  show Wp S 0 [(0, .ref t)] [] w n 0 0
  refine r_aload_n hb 1 dX7_empty_0 rfl 0 rfl ?_
  refine r_iconst hb 2 dX7_empty_1 rfl ?_
  refine r_put hb ho 5 dX7_empty_2 rfl lk_X7_21 pf_X7_1 f0 (Nat.le_of_ble_eq_true rfl) ⟨rfl, rfl⟩ (fun w_2 hw_2 => ?_)
  have ow_2 := pset_off hw_2
  have xw_2 : w_2 t = some (eO 7 [.ref (t + 1), .int (iI 0)]) := by rw [hw_2]; exact pset_eq _ _ _
  have f2 : w_2 (t + 1) = some (eI R g) := (ow_2 _ (by omega)).trans f2
  refine r_vret hS dX7_empty_5 rfl (Nat.zero_le _) (Nat.zero_le _) ?_
  exact ⟨rfl, rfl, ⟨xw_2, Nat.zero_le _, g, f2, fun i hi => absurd hi (Nat.not_lt_zero _)⟩, ow_2.mono (by omega) (by omega)⟩

abbrev rm_X7_append : Room := { frames := 0, cells := 0, slots := 0, locals := 0 }
set_option maxHeartbeats 4000000 in
set_option maxRecDepth 100000 in
theorem c_X7_append (t R : Nat) (L : List Int32) (x : Int32) {w : PW} {n : Nat} (hT : tx w t R L) (hR : R ≤ 200) (hr : L.length < R) : Ct0 yX7_append cX7_append 2 none rm_X7_append [.ref t, .int x] w n (fun w1 n1 => n = n1 ∧ tx w1 t R (L ++ [x]) ∧ off w w1 t (t + 2)) := by
  obtain ⟨f0, f1, g, f2, f3⟩ := id hT
  refine Ctr.of rfl (Nat.le_of_ble_eq_true rfl) fun S hS => ?_
  have hb : S.1.1 = cX7_append := by rw [hS]; rfl
  have ho : S.1.2.1 = RX7 := by rw [hS]; rfl
  have hnL : S.1.2.2.1 = 2 := by rw [hS]; rfl
  have hR0 : S.2.1 = rm_X7_append := by rw [hS]; rfl
  show Wp S 0 [(0, .ref t), (1, .int x)] [] w n 0 0
  refine r_aload_n hb 1 dX7_append_0 rfl 0 rfl ?_
  refine r_get hb ho 4 dX7_append_1 rfl lk_X7_21 pf_X7_1 f0 rfl ?_
  refine r_if_lt hb 7 39 dX7_append_4 rfl (by decide) (by omega) (fun c4 => ?_) (fun c4 => ?_)
  · exfalso; omega
  · refine r_aload_n hb 8 dX7_append_7 rfl 0 rfl ?_
    refine r_get hb ho 11 dX7_append_8 rfl lk_X7_21 pf_X7_1 f0 rfl ?_
    refine r_aload_n hb 12 dX7_append_11 rfl 0 rfl ?_
    refine r_get hb ho 15 dX7_append_12 rfl lk_X7_15 pf_X7_0 f0 rfl ?_
    refine r_alen hb 16 dX7_append_15 rfl f2 (by decide) (((R : Nat) : Int)) rfl ?_
    refine r_icmp_ge hb 19 39 dX7_append_16 rfl (by decide) (by omega) (by omega) (fun c16 => ?_) (fun c16 => ?_)
    · exfalso; omega
    · refine r_aload_n hb 20 dX7_append_19 rfl 0 rfl ?_
      refine r_get hb ho 23 dX7_append_20 rfl lk_X7_15 pf_X7_0 f0 rfl ?_
      refine r_aload_n hb 24 dX7_append_23 rfl 0 rfl ?_
      refine r_get hb ho 27 dX7_append_24 rfl lk_X7_21 pf_X7_1 f0 rfl ?_
      refine r_iload_n hb 28 dX7_append_27 rfl 1 rfl ?_
      refine r_iast hb 29 dX7_append_28 rfl f2 L.length (by omega) (⟨by omega, by omega⟩) (fun w_28 hw_28 => ?_)
      have ow_28 := pset_off hw_28
      have xw_28 : w_28 (t + 1) = some (eI R (upd g L.length (x))) := by rw [hw_28]; exact pset_eq _ _ _
      have f0 : w_28 t = some (eO 7 [.ref (t + 1), .int (iI (((L.length : Nat) : Int)))]) := (ow_28 _ (by omega)).trans f0
      refine r_aload_n hb 30 dX7_append_29 rfl 0 rfl ?_
      refine r_dup hb 31 dX7_append_30 rfl rfl ?_
      refine r_get hb ho 34 dX7_append_31 rfl lk_X7_21 pf_X7_1 f0 rfl ?_
      refine r_iconst hb 35 dX7_append_34 rfl ?_
      refine r_iaddZ hb 36 (((L.length : Nat) : Int) + 1) dX7_append_35 rfl (by omega) ?_
      refine r_put hb ho 39 dX7_append_36 rfl lk_X7_21 pf_X7_1 f0 (Nat.le_of_ble_eq_true rfl) ⟨rfl, rfl⟩ (fun w_36 hw_36 => ?_)
      have ow_36 := pset_off hw_36
      have xw_36 : w_36 t = some (eO 7 [.ref (t + 1), .int (iI (((L.length : Nat) : Int) + 1))]) := by rw [hw_36]; exact pset_eq _ _ _
      have xw_28 : w_36 (t + 1) = some (eI R (upd g L.length (x))) := (ow_36 _ (by omega)).trans xw_28
      refine r_vret hS dX7_append_39 rfl (Nat.zero_le _) (Nat.zero_le _) ?_
      refine ⟨rfl, rfl, ⟨?_, by simp; omega, _, xw_28, ?_⟩, (ow_28.mono (by omega) (by omega)).trans (ow_36.mono (by omega) (by omega))⟩
      · rw [xw_36]
        simp [List.length_append]
      · intro i hi
        rw [List.length_append] at hi
        by_cases h : i = L.length
        · subst h
          rw [getD_app2 _ _ (by omega)]
          simp [upd]
        · have h2 : i < L.length := by simp at hi; omega
          rw [getD_app1 _ _ h2, ← f3 i h2]
          exact pk_un (by omega)

abbrev rm_X7_copyPart : Room := { frames := 1, cells := 0, slots := 0, locals := 21 }
set_option maxHeartbeats 4000000 in
set_option maxRecDepth 100000 in
theorem c_X7_copyPart (t R u Ru : Nat) (L M : List Int32) (a b : Int) (a0 b0 : Nat) {w : PW} {n : Nat} (hT : tx w t R L) (hM : tx w u Ru M) (hR : R ≤ 200) (hRu : Ru ≤ 200) (hd : t + 2 ≤ u ∨ u + 2 ≤ t) (ha : -2147483648 ≤ a ∧ a < 2147483648) (hbb : -2147483648 ≤ b ∧ b < 2147483648) (ha0 : (if 0 < a then a else 0) = (a0 : Int)) (hb0 : (if 0 < b then b else 0) = (b0 : Int)) (hlen : min b0 M.length - a0 ≤ R) : Ct0 yX7_copyPart cX7_copyPart 5 none rm_X7_copyPart [.ref t, .ref u, .int (iI (a)), .int (iI (b))] w n (fun w1 n1 => n = n1 ∧ tx w1 t R (slice M a0 b0) ∧ off w w1 t (t + 2)) := by
  obtain ⟨f0, f1, g, f2, f3⟩ := id hT
  refine Ctr.of rfl (Nat.le_of_ble_eq_true rfl) fun S hS => ?_
  have hb : S.1.1 = cX7_copyPart := by rw [hS]; rfl
  have ho : S.1.2.1 = RX7 := by rw [hS]; rfl
  have hnL : S.1.2.2.1 = 5 := by rw [hS]; rfl
  have hR0 : S.2.1 = rm_X7_copyPart := by rw [hS]; rfl
  show Wp S 0 [(0, .ref t), (1, .ref u), (2, .int (iI (a))), (3, .int (iI (b)))] [] w n 0 0
  refine r_aload_n hb 1 dX7_copyPart_0 rfl 0 rfl ?_
  refine r_iconst hb 2 dX7_copyPart_1 rfl ?_
  refine r_put hb ho 5 dX7_copyPart_2 rfl lk_X7_21 pf_X7_1 f0 (Nat.le_of_ble_eq_true rfl) ⟨rfl, rfl⟩ (fun w_2 hw_2 => ?_)
  have ow_2 := pset_off hw_2
  have xw_2 : w_2 t = some (eO 7 [.ref (t + 1), .int (iI 0)]) := by rw [hw_2]; exact pset_eq _ _ _
  have f2 : w_2 (t + 1) = some (eI R g) := (ow_2 _ (by omega)).trans f2
  have hM : tx w_2 u Ru M := hM.off ow_2 (by omega)
  refine r_iconst hb 6 dX7_copyPart_5 rfl ?_
  refine r_iload_n hb 7 dX7_copyPart_6 rfl 2 rfl ?_
  refine r_max hb ho 10 dX7_copyPart_7 rfl ck_X7_9 (by rw [hR0]; exact Nat.le_of_ble_eq_true rfl) (by rw [hR0]; exact Nat.le_of_ble_eq_true rfl) (by rw [hR0]; exact Nat.zero_le _) (by rw [hR0]; exact Nat.zero_le _) (by omega) (by omega) (((a0 : Nat) : Int)) (by omega) ?_
  refine r_istore [(4, .int (iI (((a0 : Nat) : Int)))), (0, .ref t), (1, .ref u), (2, .int (iI (a))), (3, .int (iI (b)))] hb 12 5 dX7_copyPart_10 rfl hnL (by decide) rfl ?_
  have lp : ∀ (d : Nat) (i : Nat) (wi : PW), M.length + 300 - i = d → (a0 ≤ i) → ((b0 ≤ a0 ∧ i = a0) ∨ i ≤ b0) → ((M.length ≤ a0 ∧ i = a0) ∨ i ≤ M.length) → (i < 2147483648) → (tx wi t R (slice M a0 i)) → (tx wi u Ru M) → (off w wi t (t + 2)) → Wp S 12 [(4, .int (iI (((i : Nat) : Int)))), (0, .ref t), (1, .ref u), (2, .int (iI (a))), (3, .int (iI (b)))] [] wi n 0 0 := by
    intro d
    induction d using Nat.strongRecOn with
    | _ d ih_lp =>
      intro i wi hd_lp hi hib him hiB hT1 hM hO
      have hM0 := hM.1
      have hMl := hM.2.1
      refine r_iload hb 14 dX7_copyPart_12 rfl 0 rfl ?_
      refine r_iload_n hb 15 dX7_copyPart_14 rfl 4 rfl ?_
      refine r_icmp_ge hb 18 43 dX7_copyPart_15 rfl (by decide) (by omega) (by omega) (fun c15 => ?_) (fun c15 => ?_)
      · refine r_vret hS dX7_copyPart_43 rfl (Nat.zero_le _) (Nat.zero_le _) ?_
        have e : slice M a0 i = slice M a0 b0 := by
          rcases Nat.lt_or_ge a0 b0 with h | h
          · first | (rw [show i = b0 by omega]) | exact slice_more M (by omega) (by omega)
          · rw [slice_nil M h]; first | rw [slice_nil M (by omega)] | (apply List.eq_nil_of_length_eq_zero; rw [slice_len]; omega)
        exact ⟨rfl, rfl, e ▸ hT1, hO⟩
      · refine r_iload hb 20 dX7_copyPart_18 rfl 0 rfl ?_
        refine r_aload_n hb 21 dX7_copyPart_20 rfl 2 rfl ?_
        refine r_get hb ho 24 dX7_copyPart_21 rfl lk_X7_21 pf_X7_1 hM0 rfl ?_
        refine r_icmp_ge hb 27 43 dX7_copyPart_24 rfl (by decide) (by omega) (by omega) (fun c24 => ?_) (fun c24 => ?_)
        · refine r_vret hS dX7_copyPart_43 rfl (Nat.zero_le _) (Nat.zero_le _) ?_
          have e : slice M a0 i = slice M a0 b0 := by
            rcases Nat.lt_or_ge a0 b0 with h | h
            · first | (rw [show i = b0 by omega]) | exact slice_more M (by omega) (by omega)
            · rw [slice_nil M h]; first | rw [slice_nil M (by omega)] | (apply List.eq_nil_of_length_eq_zero; rw [slice_len]; omega)
          exact ⟨rfl, rfl, e ▸ hT1, hO⟩
        · refine r_aload_n hb 28 dX7_copyPart_27 rfl 1 rfl ?_
          refine r_aload_n hb 29 dX7_copyPart_28 rfl 2 rfl ?_
          refine r_iload hb 31 dX7_copyPart_29 rfl 0 rfl ?_
          refine r_callVR (st := [.ref t]) hb ho 34 dX7_copyPart_31 rfl ck_X7_29 (c_X7_at (u) Ru M (((i : Nat) : Int)) hM (hRu) (by omega)) rfl rfl (hM0) rfl rfl (by rw [hR0]; exact ⟨Nat.le_of_ble_eq_true rfl, Nat.le_of_ble_eq_true rfl⟩) (Nat.le_of_ble_eq_true rfl) ⟨rfl, rfl⟩ (by rw [hR0]; exact Nat.zero_le _) (by rw [hR0]; exact Nat.zero_le _) ?_
          refine r_callV0 (st := []) hb ho 37 dX7_copyPart_34 rfl ck_X7_33 (c_X7_append t R (slice M a0 i) (textAt M (i : Int)) hT1 hR (by rw [slice_len]; omega)) rfl rfl (hT1.1) rfl rfl (by rw [hR0]; exact ⟨Nat.le_of_ble_eq_true rfl, Nat.le_of_ble_eq_true rfl⟩) (Nat.le_of_ble_eq_true rfl) ⟨rfl, rfl⟩ (by rw [hR0]; exact Nat.zero_le _) (by rw [hR0]; exact Nat.zero_le _) (fun w_34 nw_34 qw_34 => ?_)
          obtain ⟨rfl, hT1, ow_34⟩ := qw_34
          have hO := hO.trans (ow_34.mono (by omega) (by omega))
          have hM : tx w_34 u Ru M := hM.off ow_34 (by omega)
          have hM0 : w_34 u = some (eO 7 [.ref (u + 1), .int (iI (((M.length : Nat) : Int)))]) := (ow_34 _ (by omega)).trans hM0
          rw [textAt_nat (by omega)] at hT1
          refine r_iinc [(4, .int (iI (((i : Nat) : Int) + 1))), (0, .ref t), (1, .ref u), (2, .int (iI (a))), (3, .int (iI (b)))] hb 40 5 0 dX7_copyPart_37 rfl rfl hnL (by decide) (((i : Nat) : Int) + 1) (by omega) rfl ?_
          refine r_goto hb 12 dX7_copyPart_40 (by decide) ?_
          refine r_lv [(4, .int (iI (((i + 1 : Nat)) : Int))), (0, .ref t), (1, .ref u), (2, .int (iI a)), (3, .int (iI b))] [0, 1, 2, 3, 4] rfl ?_
          exact ih_lp (M.length + 300 - (i + 1)) (by omega) (i + 1) _ rfl (by omega) (by omega) (by omega) (by omega) (by rw [slice_add M hi (by omega)]; exact hT1) hM hO
  have hMl := hM.2.1
  refine r_lv [(4, .int (iI ((a0 : Nat) : Int))), (0, .ref t), (1, .ref u), (2, .int (iI a)), (3, .int (iI b))] [0, 1, 2, 3, 4] rfl ?_
  exact lp _ a0 _ rfl (Nat.le_refl _) (by omega) (by omega) (by omega) (by rw [slice_nil M (Nat.le_refl _)]; exact ⟨xw_2, Nat.zero_le _, g, f2, fun i hi => absurd hi (Nat.not_lt_zero _)⟩) hM (ow_2.mono (by omega) (by omega))

abbrev rm_X7_become : Room := { frames := 2, cells := 0, slots := 0, locals := 45 }
set_option maxHeartbeats 4000000 in
set_option maxRecDepth 100000 in
theorem c_X7_become (t R u Ru : Nat) (L M : List Int32) {w : PW} {n : Nat} (hT : tx w t R L) (hM : tx w u Ru M) (hR : R ≤ 200) (hRu : Ru ≤ 200) (hd : t + 2 ≤ u ∨ u + 2 ≤ t) (hlen : M.length ≤ R) : Ct0 yX7_become cX7_become 2 none rm_X7_become [.ref t, .ref u] w n (fun w1 n1 => n = n1 ∧ tx w1 t R M ∧ off w w1 t (t + 2)) := by
  have hM0 := hM.1
  have hMl := hM.2.1
  have hT0 := hT.1
  refine Ctr.of rfl (Nat.le_of_ble_eq_true rfl) fun S hS => ?_
  have hb : S.1.1 = cX7_become := by rw [hS]; rfl
  have ho : S.1.2.1 = RX7 := by rw [hS]; rfl
  have hnL : S.1.2.2.1 = 2 := by rw [hS]; rfl
  have hR0 : S.2.1 = rm_X7_become := by rw [hS]; rfl
  show Wp S 0 [(0, .ref t), (1, .ref u)] [] w n 0 0
  refine r_aload_n hb 1 dX7_become_0 rfl 0 rfl ?_
  refine r_aload_n hb 2 dX7_become_1 rfl 1 rfl ?_
  refine r_iconst hb 3 dX7_become_2 rfl ?_
  refine r_aload_n hb 4 dX7_become_3 rfl 1 rfl ?_
  refine r_get hb ho 7 dX7_become_4 rfl lk_X7_21 pf_X7_1 hM0 rfl ?_
  refine r_callV0 (st := []) hb ho 10 dX7_become_7 rfl ck_X7_25 (c_X7_copyPart t R u Ru L M 0 _ 0 M.length hT hM hR hRu hd (by omega) (by omega) rfl (by omega) (by omega)) rfl rfl (hT0) rfl rfl (by rw [hR0]; exact ⟨Nat.le_of_ble_eq_true rfl, Nat.le_of_ble_eq_true rfl⟩) (Nat.le_of_ble_eq_true rfl) ⟨rfl, rfl⟩ (by rw [hR0]; exact Nat.zero_le _) (by rw [hR0]; exact Nat.zero_le _) (fun w_7 nw_7 qw_7 => ?_)
  obtain ⟨rfl, hT1, hO⟩ := qw_7
  refine r_vret hS dX7_become_10 rfl (Nat.zero_le _) (Nat.zero_le _) ?_
  rw [slice_all] at hT1
  exact ⟨rfl, rfl, hT1, hO⟩

abbrev rm_X7_cutLetters : Room := { frames := 0, cells := 0, slots := 0, locals := 0 }
set_option maxHeartbeats 4000000 in
set_option maxRecDepth 100000 in
/-- Text.cutLetters -/
theorem c_X7_cutLetters (t R : Nat) (L : List Int32) (p k : Nat) {w : PW} {n : Nat} (hT : tx w t R L) (hR : R ≤ 200) (hp : p + k ≤ L.length) : Ct0 yX7_cutLetters cX7_cutLetters 4 none rm_X7_cutLetters [.ref t, .int (iI (((p : Nat) : Int))), .int (iI (((k : Nat) : Int)))] w n (fun w1 n1 => n = n1 ∧ tx w1 t R (cutL L p k) ∧ off w w1 t (t + 2)) := by
  obtain ⟨f0, f1, g, f2, f3⟩ := id hT
  refine Ctr.of rfl (Nat.le_of_ble_eq_true rfl) fun S hS => ?_
  have hb : S.1.1 = cX7_cutLetters := by rw [hS]; rfl
  have ho : S.1.2.1 = RX7 := by rw [hS]; rfl
  have hnL : S.1.2.2.1 = 4 := by rw [hS]; rfl
  have hR0 : S.2.1 = rm_X7_cutLetters := by rw [hS]; rfl
  show Wp S 0 [(0, .ref t), (1, .int (iI (((p : Nat) : Int)))), (2, .int (iI (((k : Nat) : Int))))] [] w n 0 0
  refine r_iload_n hb 1 dX7_cutLetters_0 rfl 1 rfl ?_
  refine r_if_lt hb 4 18 dX7_cutLetters_1 rfl (by decide) (by omega) (fun c1 => ?_) (fun c1 => ?_)
  · exfalso; omega
  · refine r_iload_n hb 5 dX7_cutLetters_4 rfl 2 rfl ?_
    refine r_if_lt hb 8 18 dX7_cutLetters_5 rfl (by decide) (by omega) (fun c5 => ?_) (fun c5 => ?_)
    · exfalso; omega
    · refine r_iload_n hb 9 dX7_cutLetters_8 rfl 2 rfl ?_
      refine r_aload_n hb 10 dX7_cutLetters_9 rfl 0 rfl ?_
      refine r_get hb ho 13 dX7_cutLetters_10 rfl lk_X7_21 pf_X7_1 f0 rfl ?_
      refine r_iload_n hb 14 dX7_cutLetters_13 rfl 1 rfl ?_
      refine r_isubZ hb 15 (((L.length : Nat) : Int) - ((p : Nat) : Int)) dX7_cutLetters_14 rfl (by omega) ?_
      refine r_icmp_le hb 18 19 dX7_cutLetters_15 rfl (by decide) (by omega) (by omega) (fun c15 => ?_) (fun c15 => ?_)
      · refine r_iload_n hb 20 dX7_cutLetters_19 rfl 1 rfl ?_
        refine r_iload_n hb 21 dX7_cutLetters_20 rfl 2 rfl ?_
        refine r_iaddZ hb 22 ((((p + k : Nat) : Nat) : Int)) dX7_cutLetters_21 rfl (by omega) ?_
        refine r_istore_n [(3, .int (iI ((((p + k : Nat) : Nat) : Int)))), (0, .ref t), (1, .int (iI (((p : Nat) : Int)))), (2, .int (iI (((k : Nat) : Int))))] hb 23 4 dX7_cutLetters_22 rfl rfl hnL (by decide) rfl ?_
        have lp : ∀ (d : Nat) (i : Nat) (wi : PW) (gi : Nat → Int32), L.length - i = d → (p + k ≤ i) → (i ≤ L.length) → (wi t = some (eO 7 [.ref (t + 1), .int (iI ((L.length : Nat) : Int))])) → (wi (t + 1) = some (eI R gi)) → (∀ j, j < i - k → gi j = if j < p then L.getD j 0 else L.getD (j + k) 0) → (∀ j, i - k ≤ j → j < L.length → gi j = L.getD j 0) → (off w wi t (t + 2)) → Wp S 23 [(3, .int (iI (((i : Nat) : Int)))), (0, .ref t), (1, .int (iI (((p : Nat) : Int)))), (2, .int (iI (((k : Nat) : Int))))] [] wi n 0 0 := by
          intro d
          induction d using Nat.strongRecOn with
          | _ d ih_lp =>
            intro i wi gi hd_lp hi hi2 f0 f2 hlo hhi hO
            refine r_iload_n hb 24 dX7_cutLetters_23 rfl 0 rfl ?_
            refine r_aload_n hb 25 dX7_cutLetters_24 rfl 1 rfl ?_
            refine r_get hb ho 28 dX7_cutLetters_25 rfl lk_X7_21 pf_X7_1 f0 rfl ?_
            refine r_icmp_ge hb 31 60 dX7_cutLetters_28 rfl (by decide) (by omega) (by omega) (fun c28 => ?_) (fun c28 => ?_)
            · refine r_aload_n hb 61 dX7_cutLetters_60 rfl 1 rfl ?_
              refine r_dup hb 62 dX7_cutLetters_61 rfl rfl ?_
              refine r_get hb ho 65 dX7_cutLetters_62 rfl lk_X7_21 pf_X7_1 f0 rfl ?_
              refine r_iload_n hb 66 dX7_cutLetters_65 rfl 3 rfl ?_
              refine r_isubZ hb 67 ((((L.length - k : Nat) : Nat) : Int)) dX7_cutLetters_66 rfl (by omega) ?_
              refine r_put hb ho 70 dX7_cutLetters_67 rfl lk_X7_21 pf_X7_1 f0 (Nat.le_of_ble_eq_true rfl) ⟨rfl, rfl⟩ (fun w_67 hw_67 => ?_)
              have ow_67 := pset_off hw_67
              have xw_67 : w_67 t = some (eO 7 [.ref (t + 1), .int (iI ((((L.length - k : Nat) : Nat) : Int)))]) := by rw [hw_67]; exact pset_eq _ _ _
              have f2 : w_67 (t + 1) = some (eI R gi) := (ow_67 _ (by omega)).trans f2
              refine r_vret hS dX7_cutLetters_70 rfl (Nat.zero_le _) (Nat.zero_le _) ?_
              refine ⟨rfl, rfl, ⟨?_, by rw [cutL_len hp]; omega, gi, f2, ?_⟩, hO.trans (ow_67.mono (by omega) (by omega))⟩
              · rw [xw_67, cutL_len hp]
              · intro j hj
                rw [cutL_len hp] at hj
                rw [cutL_get hp]
                exact hlo j (by omega)
            · refine r_iload_n hb 32 dX7_cutLetters_31 rfl 0 rfl ?_
              refine r_aload_n hb 33 dX7_cutLetters_32 rfl 1 rfl ?_
              refine r_get hb ho 36 dX7_cutLetters_33 rfl lk_X7_15 pf_X7_0 f0 rfl ?_
              refine r_alen hb 37 dX7_cutLetters_36 rfl f2 (by decide) (((R : Nat) : Int)) rfl ?_
              refine r_icmp_ge hb 40 60 dX7_cutLetters_37 rfl (by decide) (by omega) (by omega) (fun c37 => ?_) (fun c37 => ?_)
              · exfalso; omega
              · refine r_aload_n hb 41 dX7_cutLetters_40 rfl 1 rfl ?_
                refine r_get hb ho 44 dX7_cutLetters_41 rfl lk_X7_15 pf_X7_0 f0 rfl ?_
                refine r_iload_n hb 45 dX7_cutLetters_44 rfl 0 rfl ?_
                refine r_iload_n hb 46 dX7_cutLetters_45 rfl 3 rfl ?_
                refine r_isubZ hb 47 ((((i - k : Nat) : Nat) : Int)) dX7_cutLetters_46 rfl (by omega) ?_
                refine r_aload_n hb 48 dX7_cutLetters_47 rfl 1 rfl ?_
                refine r_get hb ho 51 dX7_cutLetters_48 rfl lk_X7_15 pf_X7_0 f0 rfl ?_
                refine r_iload_n hb 52 dX7_cutLetters_51 rfl 0 rfl ?_
                refine r_iald hb 53 dX7_cutLetters_52 rfl f2 i (by omega) (⟨by omega, by omega⟩) ?_
                refine r_iast hb 54 dX7_cutLetters_53 rfl f2 (((i - k : Nat))) (by omega) (⟨by omega, by omega⟩) (fun w_53 hw_53 => ?_)
                have ow_53 := pset_off hw_53
                have xw_53 : w_53 (t + 1) = some (eI R (upd gi (((i - k : Nat))) ((gi i)))) := by rw [hw_53]; exact pset_eq _ _ _
                have f0 : w_53 t = some (eO 7 [.ref (t + 1), .int (iI (((L.length : Nat) : Int)))]) := (ow_53 _ (by omega)).trans f0
                refine r_iinc [(3, .int (iI (((i : Nat) : Int) + 1))), (0, .ref t), (1, .int (iI (((p : Nat) : Int)))), (2, .int (iI (((k : Nat) : Int))))] hb 57 4 0 dX7_cutLetters_54 rfl rfl hnL (by decide) (((i : Nat) : Int) + 1) (by omega) rfl ?_
                refine r_goto hb 23 dX7_cutLetters_57 (by decide) ?_
                refine r_lv [(3, .int (iI (((i + 1 : Nat)) : Int))), (0, .ref t), (1, .int (iI ((p : Nat) : Int))), (2, .int (iI ((k : Nat) : Int)))] [0, 1, 2, 3] rfl ?_
                refine ih_lp (L.length - (i + 1)) (by omega) (i + 1) _ _ rfl (by omega) (by omega) f0 xw_53 ?_ ?_ (hO.trans (ow_53.mono (by omega) (by omega)))
                · intro j hj
                  by_cases h : j = i - k
                  · subst h
                    rw [if_neg (by omega), show i - k + k = i by omega]
                    simp only [upd, if_true]
                    exact hhi i (by omega) (by omega)
                  · rw [← hlo j (by omega)]
                    exact pk_un (by omega)
                · intro j hj hj2
                  rw [← hhi j (by omega) hj2]
                  exact pk_un (by omega)
        refine r_lv [(3, .int (iI (((p + k : Nat)) : Int))), (0, .ref t), (1, .int (iI ((p : Nat) : Int))), (2, .int (iI ((k : Nat) : Int)))] [0, 1, 2, 3] rfl ?_
        exact lp _ (p + k) _ _ rfl (Nat.le_refl _) hp f0 f2 (fun j hj => by rw [if_pos (by omega)]; exact f3 j (by omega)) (fun j _ hj => f3 j hj) (off.rfl' _ _ _)
      · exfalso; omega

abbrev rm_X7_putLetters : Room := { frames := 1, cells := 0, slots := 0, locals := 21 }
set_option maxHeartbeats 4000000 in
set_option maxRecDepth 100000 in
/-- Text.putLetters -/
theorem c_X7_putLetters (t R u Ru : Nat) (L M : List Int32) (p : Nat) {w : PW} {n : Nat} (hT : tx w t R L) (hM : tx w u Ru M) (hR : R ≤ 200) (hRu : Ru ≤ 200) (hd : t + 2 ≤ u ∨ u + 2 ≤ t) (hp : p ≤ L.length) (hm : L.length + M.length ≤ R) : Ct0 yX7_putLetters cX7_putLetters 5 none rm_X7_putLetters [.ref t, .int (iI (((p : Nat) : Int))), .ref u] w n (fun w1 n1 => n = n1 ∧ tx w1 t R (putL L p M) ∧ off w w1 t (t + 2)) := by
  obtain ⟨f0, f1, g, f2, f3⟩ := id hT
  have hM0 := hM.1
  have hMl := hM.2.1
  refine Ctr.of rfl (Nat.le_of_ble_eq_true rfl) fun S hS => ?_
  have hb : S.1.1 = cX7_putLetters := by rw [hS]; rfl
  have ho : S.1.2.1 = RX7 := by rw [hS]; rfl
  have hnL : S.1.2.2.1 = 5 := by rw [hS]; rfl
  have hR0 : S.2.1 = rm_X7_putLetters := by rw [hS]; rfl
  show Wp S 0 [(0, .ref t), (1, .int (iI (((p : Nat) : Int)))), (2, .ref u)] [] w n 0 0
  refine r_aload_n hb 1 dX7_putLetters_0 rfl 2 rfl ?_
  refine r_get hb ho 4 dX7_putLetters_1 rfl lk_X7_21 pf_X7_1 hM0 rfl ?_
  refine r_istore_n [(3, .int (iI (((M.length : Nat) : Int)))), (0, .ref t), (1, .int (iI (((p : Nat) : Int)))), (2, .ref u)] hb 5 5 dX7_putLetters_4 rfl rfl hnL (by decide) rfl ?_
  refine r_iload_n hb 6 dX7_putLetters_5 rfl 2 rfl ?_
  refine r_if_lt hb 9 35 dX7_putLetters_6 rfl (by decide) (by omega) (fun c6 => ?_) (fun c6 => ?_)
  · exfalso; omega
  · refine r_iload_n hb 10 dX7_putLetters_9 rfl 2 rfl ?_
    refine r_aload_n hb 11 dX7_putLetters_10 rfl 1 rfl ?_
    refine r_get hb ho 14 dX7_putLetters_11 rfl lk_X7_21 pf_X7_1 f0 rfl ?_
    refine r_icmp_gt hb 17 35 dX7_putLetters_14 rfl (by decide) (by omega) (by omega) (fun c14 => ?_) (fun c14 => ?_)
    · exfalso; omega
    · refine r_iload_n hb 18 dX7_putLetters_17 rfl 0 rfl ?_
      refine r_if_lt hb 21 35 dX7_putLetters_18 rfl (by decide) (by omega) (fun c18 => ?_) (fun c18 => ?_)
      · exfalso; omega
      · refine r_iload_n hb 22 dX7_putLetters_21 rfl 0 rfl ?_
        refine r_aload_n hb 23 dX7_putLetters_22 rfl 1 rfl ?_
        refine r_get hb ho 26 dX7_putLetters_23 rfl lk_X7_15 pf_X7_0 f0 rfl ?_
        refine r_alen hb 27 dX7_putLetters_26 rfl f2 (by decide) (((R : Nat) : Int)) rfl ?_
        refine r_aload_n hb 28 dX7_putLetters_27 rfl 1 rfl ?_
        refine r_get hb ho 31 dX7_putLetters_28 rfl lk_X7_21 pf_X7_1 f0 rfl ?_
        refine r_isubZ hb 32 (((R : Nat) : Int) - ((L.length : Nat) : Int)) dX7_putLetters_31 rfl (by omega) ?_
        refine r_icmp_le hb 35 36 dX7_putLetters_32 rfl (by decide) (by omega) (by omega) (fun c32 => ?_) (fun c32 => ?_)
        · refine r_aload_n hb 37 dX7_putLetters_36 rfl 1 rfl ?_
          refine r_get hb ho 40 dX7_putLetters_37 rfl lk_X7_21 pf_X7_1 f0 rfl ?_
          refine r_iconst hb 41 dX7_putLetters_40 rfl ?_
          refine r_isubZ hb 42 (((L.length : Nat) : Int) - 1) dX7_putLetters_41 rfl (by omega) ?_
          refine r_istore [(4, .int (iI (((L.length : Nat) : Int) - 1))), (3, .int (iI (((M.length : Nat) : Int)))), (0, .ref t), (1, .int (iI (((p : Nat) : Int)))), (2, .ref u)] hb 44 5 dX7_putLetters_42 rfl hnL (by decide) rfl ?_
          have lp : ∀ (d : Nat) (i : Nat) (wi : PW) (gi : Nat → Int32), i = d → (p ≤ i) → (i ≤ L.length) → (wi t = some (eO 7 [.ref (t + 1), .int (iI ((L.length : Nat) : Int))])) → (wi (t + 1) = some (eI R gi)) → (tx wi u Ru M) → (∀ j, j < i + M.length → j < L.length → gi j = L.getD j 0) → (∀ j, i ≤ j → j < L.length → gi (j + M.length) = L.getD j 0) → (off w wi t (t + 2)) → Wp S 44 [(4, .int (iI (((i : Nat) : Int) - 1))), (3, .int (iI (((M.length : Nat) : Int)))), (0, .ref t), (1, .int (iI (((p : Nat) : Int)))), (2, .ref u)] [] wi n 0 0 := by
            intro d
            induction d using Nat.strongRecOn with
            | _ d ih_lp =>
              intro i wi gi hd_lp hi hi2 f0 f2 hM hlo hhi hO
              have hM0 := hM.1
              refine r_iload hb 46 dX7_putLetters_44 rfl 0 rfl ?_
              refine r_iload_n hb 47 dX7_putLetters_46 rfl 3 rfl ?_
              refine r_icmp_lt hb 50 72 dX7_putLetters_47 rfl (by decide) (by omega) (by omega) (fun c47 => ?_) (fun c47 => ?_)
              · refine r_iconst hb 73 dX7_putLetters_72 rfl ?_
                refine r_istore [(4, .int (iI 0)), (3, .int (iI (((M.length : Nat) : Int)))), (0, .ref t), (1, .int (iI (((p : Nat) : Int)))), (2, .ref u)] hb 75 5 dX7_putLetters_73 rfl hnL (by decide) rfl ?_
                have lq : ∀ (d : Nat) (j : Nat) (wj : PW) (gj : Nat → Int32), M.length - j = d → (j ≤ M.length) → (wj t = some (eO 7 [.ref (t + 1), .int (iI ((L.length : Nat) : Int))])) → (wj (t + 1) = some (eI R gj)) → (tx wj u Ru M) → (∀ x, x < p → gj x = L.getD x 0) → (∀ x, x < j → gj (p + x) = M.getD x 0) → (∀ x, p ≤ x → x < L.length → gj (x + M.length) = L.getD x 0) → (off w wj t (t + 2)) → Wp S 75 [(4, .int (iI (((j : Nat) : Int)))), (3, .int (iI (((M.length : Nat) : Int)))), (0, .ref t), (1, .int (iI (((p : Nat) : Int)))), (2, .ref u)] [] wj n 0 0 := by
                  intro d
                  induction d using Nat.strongRecOn with
                  | _ d ih_lq =>
                    intro j wj gj hd_lq hj f0 f2 hM hlo2 hmi hhi2 hO
                    have hM0 := hM.1
                    refine r_iload hb 77 dX7_putLetters_75 rfl 0 rfl ?_
                    refine r_iload_n hb 78 dX7_putLetters_77 rfl 1 rfl ?_
                    refine r_icmp_ge hb 81 102 dX7_putLetters_78 rfl (by decide) (by omega) (by omega) (fun c78 => ?_) (fun c78 => ?_)
                    · refine r_aload_n hb 103 dX7_putLetters_102 rfl 2 rfl ?_
                      refine r_dup hb 104 dX7_putLetters_103 rfl rfl ?_
                      refine r_get hb ho 107 dX7_putLetters_104 rfl lk_X7_21 pf_X7_1 f0 rfl ?_
                      refine r_iload_n hb 108 dX7_putLetters_107 rfl 1 rfl ?_
                      refine r_iaddZ hb 109 ((((L.length + M.length : Nat) : Nat) : Int)) dX7_putLetters_108 rfl (by omega) ?_
                      refine r_put hb ho 112 dX7_putLetters_109 rfl lk_X7_21 pf_X7_1 f0 (Nat.le_of_ble_eq_true rfl) ⟨rfl, rfl⟩ (fun w_109 hw_109 => ?_)
                      have ow_109 := pset_off hw_109
                      have xw_109 : w_109 t = some (eO 7 [.ref (t + 1), .int (iI ((((L.length + M.length : Nat) : Nat) : Int)))]) := by rw [hw_109]; exact pset_eq _ _ _
                      have f2 : w_109 (t + 1) = some (eI R gj) := (ow_109 _ (by omega)).trans f2
                      have hM0 : w_109 u = some (eO 7 [.ref (u + 1), .int (iI (((M.length : Nat) : Int)))]) := (ow_109 _ (by omega)).trans hM0
                      have hM : tx w_109 u Ru M := hM.off ow_109 (by omega)
                      refine r_vret hS dX7_putLetters_112 rfl (Nat.zero_le _) (Nat.zero_le _) ?_
                      refine ⟨rfl, rfl, ⟨?_, by rw [putL_len hp]; omega, gj, f2, ?_⟩, hO.trans (ow_109.mono (by omega) (by omega))⟩
                      · rw [xw_109, putL_len hp]
                      · intro x hx
                        rw [putL_len hp] at hx
                        rw [putL_get hp]
                        split
                        · exact hlo2 x (by omega)
                        · split
                          · rw [← hmi (x - p) (by omega), show p + (x - p) = x by omega]
                          · rw [← hhi2 (x - M.length) (by omega) (by omega), show x - M.length + M.length = x by omega]
                    · refine r_aload_n hb 82 dX7_putLetters_81 rfl 2 rfl ?_
                      refine r_get hb ho 85 dX7_putLetters_82 rfl lk_X7_15 pf_X7_0 f0 rfl ?_
                      refine r_iload_n hb 86 dX7_putLetters_85 rfl 3 rfl ?_
                      refine r_iload hb 88 dX7_putLetters_86 rfl 0 rfl ?_
                      refine r_iaddZ hb 89 ((((p + j : Nat) : Nat) : Int)) dX7_putLetters_88 rfl (by omega) ?_
                      refine r_aload_n hb 90 dX7_putLetters_89 rfl 4 rfl ?_
                      refine r_iload hb 92 dX7_putLetters_90 rfl 0 rfl ?_
                      refine r_callVR (st := [.int (iI ((((p + j : Nat) : Nat) : Int))), .ref (t + 1)]) hb ho 95 dX7_putLetters_92 rfl ck_X7_29 (c_X7_at (u) Ru M (((j : Nat) : Int)) hM (hRu) (by omega)) rfl rfl (hM0) rfl rfl (by rw [hR0]; exact ⟨Nat.le_of_ble_eq_true rfl, Nat.le_of_ble_eq_true rfl⟩) (Nat.le_of_ble_eq_true rfl) ⟨rfl, rfl⟩ (by rw [hR0]; exact Nat.zero_le _) (by rw [hR0]; exact Nat.zero_le _) ?_
                      refine r_iast hb 96 dX7_putLetters_95 rfl f2 (((p + j : Nat))) (by omega) (⟨by omega, by omega⟩) (fun w_95 hw_95 => ?_)
                      have ow_95 := pset_off hw_95
                      have xw_95 : w_95 (t + 1) = some (eI R (upd gj (((p + j : Nat))) ((textAt M (j : Int))))) := by rw [hw_95]; exact pset_eq _ _ _
                      have f0 : w_95 t = some (eO 7 [.ref (t + 1), .int (iI (((L.length : Nat) : Int)))]) := (ow_95 _ (by omega)).trans f0
                      have hM0 : w_95 u = some (eO 7 [.ref (u + 1), .int (iI (((M.length : Nat) : Int)))]) := (ow_95 _ (by omega)).trans hM0
                      have hM : tx w_95 u Ru M := hM.off ow_95 (by omega)
                      refine r_iinc [(4, .int (iI (((j : Nat) : Int) + 1))), (3, .int (iI (((M.length : Nat) : Int)))), (0, .ref t), (1, .int (iI (((p : Nat) : Int)))), (2, .ref u)] hb 99 5 0 dX7_putLetters_96 rfl rfl hnL (by decide) (((j : Nat) : Int) + 1) (by omega) rfl ?_
                      refine r_goto hb 75 dX7_putLetters_99 (by decide) ?_
                      refine r_lv [(4, .int (iI (((j + 1 : Nat)) : Int))), (3, .int (iI ((M.length : Nat) : Int))), (0, .ref t), (1, .int (iI ((p : Nat) : Int))), (2, .ref u)] [0, 1, 2, 3, 4] rfl ?_
                      refine ih_lq (M.length - (j + 1)) (by omega) (j + 1) _ _ rfl (by omega) f0 xw_95 hM ?_ ?_ ?_ (hO.trans (ow_95.mono (by omega) (by omega)))
                      · intro x hx
                        rw [← hlo2 x hx]
                        exact pk_un (by omega)
                      · intro x hx
                        by_cases h : x = j
                        · subst h
                          simp only [upd, if_true]
                          exact textAt_nat (by omega)
                        · rw [← hmi x (by omega)]
                          exact pk_un (by omega)
                      · intro x hx hx2
                        rw [← hhi2 x hx hx2]
                        exact pk_un (by omega)
                exact lq _ 0 _ _ rfl (Nat.zero_le _) f0 f2 hM (fun x hx => hlo x (by omega) (by omega)) (fun x hx => absurd hx (Nat.not_lt_zero _)) (fun x hx hx2 => hhi x (by omega) hx2) hO
              · refine r_aload_n hb 51 dX7_putLetters_50 rfl 2 rfl ?_
                refine r_get hb ho 54 dX7_putLetters_51 rfl lk_X7_15 pf_X7_0 f0 rfl ?_
                refine r_iload hb 56 dX7_putLetters_54 rfl 0 rfl ?_
                refine r_iload_n hb 57 dX7_putLetters_56 rfl 1 rfl ?_
                refine r_iaddZ hb 58 ((((i - 1 + M.length : Nat) : Nat) : Int)) dX7_putLetters_57 rfl (by omega) ?_
                refine r_aload_n hb 59 dX7_putLetters_58 rfl 2 rfl ?_
                refine r_get hb ho 62 dX7_putLetters_59 rfl lk_X7_15 pf_X7_0 f0 rfl ?_
                refine r_iload hb 64 dX7_putLetters_62 rfl 0 rfl ?_
                refine r_iald hb 65 dX7_putLetters_64 rfl f2 (i - 1) (by omega) (⟨by omega, by omega⟩) ?_
                refine r_iast hb 66 dX7_putLetters_65 rfl f2 (i - 1 + M.length) (by omega) (⟨by omega, by omega⟩) (fun w_65 hw_65 => ?_)
                have ow_65 := pset_off hw_65
                have xw_65 : w_65 (t + 1) = some (eI R (upd gi (i - 1 + M.length) ((gi (i - 1))))) := by rw [hw_65]; exact pset_eq _ _ _
                have f0 : w_65 t = some (eO 7 [.ref (t + 1), .int (iI (((L.length : Nat) : Int)))]) := (ow_65 _ (by omega)).trans f0
                have hM0 : w_65 u = some (eO 7 [.ref (u + 1), .int (iI (((M.length : Nat) : Int)))]) := (ow_65 _ (by omega)).trans hM0
                have hM : tx w_65 u Ru M := hM.off ow_65 (by omega)
                refine r_iinc [(4, .int (iI (((i : Nat) : Int) - 2))), (3, .int (iI (((M.length : Nat) : Int)))), (0, .ref t), (1, .int (iI (((p : Nat) : Int)))), (2, .ref u)] hb 69 5 0 dX7_putLetters_66 rfl rfl hnL (by decide) (((i : Nat) : Int) - 2) (by omega) rfl ?_
                refine r_goto hb 44 dX7_putLetters_69 (by decide) ?_
                refine r_lv [(4, .int (iI ((((i - 1 : Nat)) : Int) - 1))), (3, .int (iI ((M.length : Nat) : Int))), (0, .ref t), (1, .int (iI ((p : Nat) : Int))), (2, .ref u)] [0, 1, 2, 3, 4] (by rw [show (((i - 1 : Nat)) : Int) - 1 = (i : Int) - 2 by omega]; rfl) ?_
                refine ih_lp (i - 1) (by omega) (i - 1) _ _ rfl (by omega) (by omega) f0 xw_65 hM ?_ ?_ (hO.trans (ow_65.mono (by omega) (by omega)))
                · intro j hj hj2
                  rw [← hlo j (by omega) hj2]
                  exact pk_un (by omega)
                · intro j hj hj2
                  by_cases h : j = i - 1
                  · subst h
                    simp only [upd, if_true]
                    exact hlo (i - 1) (by omega) (by omega)
                  · rw [← hhi j (by omega) hj2]
                    exact pk_un (by omega)
          refine r_lv [(4, .int (iI ((((L.length : Nat)) : Int) - 1))), (3, .int (iI ((M.length : Nat) : Int))), (0, .ref t), (1, .int (iI ((p : Nat) : Int))), (2, .ref u)] [0, 1, 2, 3, 4] rfl ?_
          exact lp _ L.length _ _ rfl hp (Nat.le_refl _) f0 f2 hM (fun j _ hj => f3 j hj) (fun j hj hj2 => absurd hj2 (by omega)) (off.rfl' _ _ _)
        · exfalso; omega

abbrev rm_X7_init (R : Nat) : Room := { frames := 1, cells := 1, slots := R, locals := 21 }
set_option maxHeartbeats 4000000 in
set_option maxRecDepth 100000 in
theorem c_X7_init (t R : Nat) {w : PW}  (hT : w t = some (eO 7 [.null, .int (iI 0)])) (hR : R ≤ 200) : Ct0 yX7_init cX7_init 2 none (rm_X7_init R) [.ref t, .int (iI (((R : Nat) : Int)))] w (t + 1) (fun w1 n1 => n1 = t + 2 ∧ tx w1 t R [] ∧ off w w1 t (t + 2)) := by
  refine Ctr.of rfl (Nat.le_of_ble_eq_true rfl) fun S hS => ?_
  have hb : S.1.1 = cX7_init := by rw [hS]; rfl
  have ho : S.1.2.1 = RX7 := by rw [hS]; rfl
  have hnL : S.1.2.2.1 = 2 := by rw [hS]; rfl
  have hR0 : S.2.1 = rm_X7_init R := by rw [hS]; rfl
  have hnm : S.1.2.2.2.2 = "<init>" := by rw [hS]; rfl
  show Wp S 0 [(0, .ref t), (1, .int (iI (((R : Nat) : Int))))] [] w (t + 1) 0 0
  refine r_aload_n hb 1 dX7_init_0 rfl 0 rfl ?_
  refine r_objInit hb ho 4 dX7_init_1 rfl ck_X7_3 ob_i ob_c (by rw [hR0]; exact Nat.le_of_ble_eq_true rfl) (by rw [hR0]; exact Nat.le_of_ble_eq_true rfl) ?_
  refine r_aload_n hb 5 dX7_init_4 rfl 0 rfl ?_
  refine r_iconst hb 6 dX7_init_5 rfl ?_
  refine r_iload_n hb 7 dX7_init_6 rfl 1 rfl ?_
  refine r_max hb ho 10 dX7_init_7 rfl ck_X7_9 (by rw [hR0]; exact Nat.le_of_ble_eq_true rfl) (by rw [hR0]; exact Nat.le_of_ble_eq_true rfl) (by rw [hR0]; exact Nat.zero_le _) (by rw [hR0]; exact Nat.zero_le _) (by omega) (by omega) (((R : Nat) : Int)) (by omega) ?_
  refine r_newI (N := R) hb 12 dX7_init_10 rfl ka_int (rfl) (by omega) (by rw [hR0]; exact Nat.le_refl _) (by rw [hR0]; exact Nat.le_of_eq (Nat.zero_add _)) (fun w_10 hw_10 => ?_)
  have ow_10 := pset_off hw_10
  have fw_10 : w_10 (t + 1) = some (eI R (fun _ => 0)) := by rw [hw_10]; exact pset_eq _ _ _
  have hT : w_10 t = some (eO 7 [.null, .int (iI 0)]) := (ow_10 _ (by omega)).trans hT
  refine r_putF hb ho hnm rfl 15 dX7_init_12 rfl lkw_X7_15 pf_X7_0 hT (Nat.le_of_ble_eq_true rfl) ⟨rfl, rfl⟩ (fun w_12 hw_12 => ?_)
  have ow_12 := pset_off hw_12
  have xw_12 : w_12 t = some (eO 7 [.ref ((t + 1)), .int (iI 0)]) := by rw [hw_12]; exact pset_eq _ _ _
  have fw_10 : w_12 (t + 1) = some (eI R (fun _ => 0)) := (ow_12 _ (by omega)).trans fw_10
  refine r_aload_n hb 16 dX7_init_15 rfl 0 rfl ?_
  refine r_iconst hb 17 dX7_init_16 rfl ?_
  refine r_put hb ho 20 dX7_init_17 rfl lk_X7_21 pf_X7_1 xw_12 (Nat.le_of_ble_eq_true rfl) ⟨rfl, rfl⟩ (fun w_17 hw_17 => ?_)
  have ow_17 := pset_off hw_17
  have xw_17 : w_17 t = some (eO 7 [.ref ((t + 1)), .int (iI 0)]) := by rw [hw_17]; exact pset_eq _ _ _
  have fw_10 : w_17 (t + 1) = some (eI R (fun _ => 0)) := (ow_17 _ (by omega)).trans fw_10
  refine r_vret hS dX7_init_20 rfl (Nat.le_refl _) (Nat.le_of_eq (Nat.zero_add _)) ?_
  exact ⟨rfl, rfl, ⟨xw_17, Nat.zero_le _, _, fw_10, fun i hi => absurd hi (Nat.not_lt_zero _)⟩, ((ow_10.mono (by omega) (by omega)).trans (ow_12.mono (by omega) (by omega))).trans (ow_17.mono (by omega) (by omega))⟩
