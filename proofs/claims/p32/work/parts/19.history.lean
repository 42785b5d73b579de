abbrev Pg : Type := List Int32 × List Nt × Nat
def pg0 : Pg := ([], [], 0)
abbrev hg (hs : List Pg) (j : Nat) : Pg := hs.getD j pg0
abbrev pgP (w : PW) (g : Nat) (p : Pg) : Prop := pg w g p.1 p.2.1 p.2.2
def hshp (h : Nat) (qa : Nat → Nat) : Prop := (∀ j, j < 6 → h + 2 ≤ qa j ∧ qa j + 74 ≤ h + 446) ∧ ∀ i j, i < 6 → j < 6 → i ≠ j → qa i + 74 ≤ qa j ∨ qa j + 74 ≤ qa i
theorem hshp.swap {h : Nat} {pa pb : Nat → Nat} (H : hshp h pa) (s : Nat → Nat) (hs : ∀ j, j < 6 → s j < 6) (hi : ∀ i j, i < 6 → j < 6 → i ≠ j → s i ≠ s j) (e : ∀ j, j < 6 → pb j = pa (s j)) : hshp h pb :=
  ⟨fun j hj => by rw [e j hj]; exact H.1 _ (hs j hj), fun i j h1 h2 h3 => by rw [e i h1, e j h2]; exact H.2 _ _ (hs i h1) (hs j h2) (hi i j h1 h2 h3)⟩
/-- the history at h .. h + 445, opened -/
def hso (w : PW) (h c : Nat) (ph : Nat → Option Nat) (qa : Nat → Nat) (P : Nat → Pg) : Prop := w h = some (eO 2 [.ref (h + 1), .int (iI ((c : Nat) : Int))]) ∧ w (h + 1) = some (eQ 4 6 ph) ∧ (∀ j, j < 6 → ph j = some (qa j)) ∧ hshp h qa ∧ (∀ j, j < 6 → pgP w (qa j) (P j)) ∧ c ≤ 6
def hst (w : PW) (h : Nat) (hs : List Pg) : Prop := ∃ (ph : Nat → Option Nat) (qa : Nat → Nat) (P : Nat → Pg), hso w h hs.length ph qa P ∧ ∀ j, j < hs.length → P j = hg hs j
theorem hso.off {w w1 : PW} {h c lo hi : Nat} {ph : Nat → Option Nat} {qa : Nat → Nat} {P : Nat → Pg} (H : hso w h c ph qa P) (o : off w w1 lo hi) (d : h + 446 ≤ lo ∨ hi ≤ h) : hso w1 h c ph qa P := by
  obtain ⟨h0, h1, h2, h3, h4, h5⟩ := H
  exact ⟨(o _ (by omega)).trans h0, (o _ (by omega)).trans h1, h2, h3, fun j hj => (h4 j hj).off o (by have := h3.1 j hj; omega), h5⟩
theorem hst.off {w w1 : PW} {h lo hi : Nat} {hs : List Pg} (H : hst w h hs) (o : off w w1 lo hi) (d : h + 446 ≤ lo ∨ hi ≤ h) : hst w1 h hs := by
  obtain ⟨ph, qa, P, h1, h2⟩ := H
  exact ⟨ph, qa, P, h1.off o d, h2⟩
theorem pg.off2 {w w1 : PW} {g : Nat} {D : List Int32} {l : List Nt} {nx lo hi lo2 hi2 : Nat} (H : pg w g D l nx) (o : off2 w w1 lo hi lo2 hi2) (d : g + 74 ≤ lo ∨ hi ≤ g) (d2 : g + 74 ≤ lo2 ∨ hi2 ≤ g) : pg w1 g D l nx := by
  obtain ⟨h, pa, xs, h1, h2⟩ := H
  exact ⟨h, pa, xs, h1.off2 o d d2, h2⟩
theorem hst.off2 {w w1 : PW} {h lo hi lo2 hi2 : Nat} {hs : List Pg} (H : hst w h hs) (o : off2 w w1 lo hi lo2 hi2) (d : h + 446 ≤ lo ∨ hi ≤ h) (d2 : h + 446 ≤ lo2 ∨ hi2 ≤ h) : hst w1 h hs := by
  obtain ⟨ph, qa, P, ⟨h0, h1, h2, h3, h4, h5⟩, h6⟩ := H
  exact ⟨ph, qa, P, ⟨(o _ (by omega) (by omega)).trans h0, (o _ (by omega) (by omega)).trans h1, h2, h3, fun j hj => (h4 j hj).off2 o (by have := h3.1 j hj; omega) (by have := h3.1 j hj; omega), h5⟩, h6⟩
def recH (hs : List Pg) (p : Pg) : List Pg := (if hs.length < 6 then hs else hs.drop 1) ++ [p]
theorem recH_len (hs : List Pg) (p : Pg) (h : hs.length ≤ 6) : (recH hs p).length ≤ 6 := by
  unfold recH; split <;> simp <;> omega
theorem hg_app1 (l m : List Pg) {j : Nat} (h : j < l.length) : hg (l ++ m) j = hg l j := by simp [hg, List.getD_eq_getElem?_getD, List.getElem?_append, h]
theorem hg_app2 (l : List Pg) (y : Pg) : hg (l ++ [y]) l.length = y := by simp [hg, List.getD_eq_getElem?_getD]
theorem hg_drop (l : List Pg) (j : Nat) : hg (l.drop 1) j = hg l (j + 1) := by simp [hg, List.getD_eq_getElem?_getD, List.getElem?_drop, Nat.add_comm]
theorem hg_take (l : List Pg) {j k : Nat} (h : j < k) : hg (l.take k) j = hg l j := by simp [hg, List.getD_eq_getElem?_getD, List.getElem?_take, h]
abbrev rm_X2_dropOldest : Room := { frames := 0, cells := 0, slots := 0, locals := 0 }
set_option maxHeartbeats 4000000 in
set_option maxRecDepth 100000 in
theorem c_X2_dropOldest (h : Nat) (hs : List Pg) {w : PW} {n : Nat} (hS0 : hst w h hs) (hl6 : hs.length = 6) : Ct0 yX2_dropOldest cX2_dropOldest 3 none rm_X2_dropOldest [.ref h] w n (fun w1 n1 => n = n1 ∧ hst w1 h (hs.drop 1) ∧ off w w1 h (h + 446)) := by
  obtain ⟨ph, qa, P, hO0, hx⟩ := id hS0
  obtain ⟨hc, ha, hh, ⟨hs1, hs2⟩, hPg, hcl⟩ := id hO0
  refine Ctr.of rfl (Nat.le_of_ble_eq_true rfl) fun S hS => ?_
  have hb : S.1.1 = cX2_dropOldest := by rw [hS]; rfl
  have ho : S.1.2.1 = RX2 := by rw [hS]; rfl
  have hnL : S.1.2.2.1 = 3 := by rw [hS]; rfl
  have hR0 : S.2.1 = rm_X2_dropOldest := by rw [hS]; rfl
  show Wp S 0 [(0, .ref h)] [] w n 0 0
  refine r_iconst hb 1 dX2_dropOldest_0 rfl ?_
  refine r_istore_n [(1, .int (iI 1)), (0, .ref h)] hb 2 3 dX2_dropOldest_1 rfl rfl hnL (by decide) rfl ?_
  have lp : ∀ (d : Nat) (k : Nat) (wi : PW) (hi : Nat → Option Nat), 6 - k = d → (1 ≤ k) → (k ≤ 6) → (wi h = some (eO 2 [.ref (h + 1), .int (iI ((hs.length : Nat) : Int))])) → (wi (h + 1) = some (eQ 4 6 hi)) → (∀ j, j < k - 1 → hi j = some (qa (j + 1))) → (hi (k - 1) = some (qa 0)) → (∀ j, k ≤ j → j < 6 → hi j = some (qa j)) → (off w wi (h + 1) (h + 2)) → Wp S 2 [(1, .int (iI (((k : Nat) : Int)))), (0, .ref h)] [] wi n 0 0 := by
    intro d
    induction d using Nat.strongRecOn with
    | _ d ih_lp =>
      intro k wi hi hd_lp hk hk2 hc ha g2 g0 g3 hO
      refine r_iload_n hb 3 dX2_dropOldest_2 rfl 0 rfl ?_
      refine r_aload_n hb 4 dX2_dropOldest_3 rfl 1 rfl ?_
      refine r_get hb ho 7 dX2_dropOldest_4 rfl lk_X2_11 pf_X2_0 hc rfl ?_
      refine r_alen hb 8 dX2_dropOldest_7 rfl ha (by decide) 6 rfl ?_
      refine r_icmp_ge hb 11 47 dX2_dropOldest_8 rfl (by decide) (by omega) (by omega) (fun c8 => ?_) (fun c8 => ?_)
      · refine r_aload_n hb 48 dX2_dropOldest_47 rfl 1 rfl ?_
        refine r_aload_n hb 49 dX2_dropOldest_48 rfl 1 rfl ?_
        refine r_get hb ho 52 dX2_dropOldest_49 rfl lk_X2_11 pf_X2_0 hc rfl ?_
        refine r_alen hb 53 dX2_dropOldest_52 rfl ha (by decide) 6 rfl ?_
        refine r_iconst hb 54 dX2_dropOldest_53 rfl ?_
        refine r_isubZ hb 55 (((5 : Nat) : Int)) dX2_dropOldest_54 rfl (by omega) ?_
        refine r_put hb ho 58 dX2_dropOldest_55 rfl lk_X2_18 pf_X2_1 hc (Nat.le_of_ble_eq_true rfl) ⟨rfl, rfl⟩ (fun w_55 hw_55 => ?_)
        have ow_55 := pset_off hw_55
        have xw_55 : w_55 h = some (eO 2 [.ref (h + 1), .int (iI (((5 : Nat) : Int)))]) := by rw [hw_55]; exact pset_eq _ _ _
        have ha : w_55 (h + 1) = some (eQ 4 6 hi) := (ow_55 _ (by omega)).trans ha
        refine r_vret hS dX2_dropOldest_58 rfl (Nat.zero_le _) (Nat.zero_le _) ?_
        have hO2 : off w w_55 h (h + 2) := (hO.mono (by omega) (by omega)).trans (ow_55.mono (by omega) (by omega))
        have hel : (hs.drop 1).length = 5 := by simp [hl6]
        let s : Nat → Nat := fun j => if j < 5 then j + 1 else 0
        refine ⟨rfl, rfl, ⟨_, fun j => qa (s j), fun j => P (s j), ⟨by rw [hel]; exact xw_55, ha, ?_, ?_, ?_, by omega⟩, ?_⟩, hO2.mono (by omega) (by omega)⟩
        · intro j hj
          simp only [s]
          by_cases e : j = 5
          · rw [if_neg (by omega), e, ← g0, show k - 1 = 5 by omega]
          · rw [if_pos (by omega)]; exact g2 j (by omega)
        · refine hshp.swap ⟨hs1, hs2⟩ s ?_ ?_ (fun j _ => rfl)
          · intro j hj; simp only [s]; split <;> omega
          · intro a b ha hb hab; simp only [s]; (repeat' split) <;> omega
        · intro j hj
          have hs : s j < 6 := by simp only [s]; split <;> omega
          exact (hPg _ hs).off hO2 (by have := hs1 _ hs; omega)
        · intro j hj
          rw [hel] at hj
          show P (s j) = _
          rw [hg_drop, show s j = j + 1 by simp only [s]; rw [if_pos hj]]
          exact hx (j + 1) (by omega)
      · refine r_aload_n hb 12 dX2_dropOldest_11 rfl 1 rfl ?_
        refine r_get hb ho 15 dX2_dropOldest_12 rfl lk_X2_11 pf_X2_0 hc rfl ?_
        refine r_iload_n hb 16 dX2_dropOldest_15 rfl 0 rfl ?_
        refine r_iconst hb 17 dX2_dropOldest_16 rfl ?_
        refine r_isubZ hb 18 ((((k - 1 : Nat) : Nat) : Int)) dX2_dropOldest_17 rfl (by omega) ?_
        refine r_aald hb 19 dX2_dropOldest_18 rfl ha (by decide) (k - 1) (by omega) (⟨by omega, by omega⟩) (qa 0) (g0) ?_
        refine r_astore_n [(2, .ref (qa 0)), (1, .int (iI (((k : Nat) : Int)))), (0, .ref h)] hb 20 3 dX2_dropOldest_19 rfl rfl hnL (by decide) rfl ?_
        refine r_aload_n hb 21 dX2_dropOldest_20 rfl 2 rfl ?_
        refine r_get hb ho 24 dX2_dropOldest_21 rfl lk_X2_11 pf_X2_0 hc rfl ?_
        refine r_iload_n hb 25 dX2_dropOldest_24 rfl 1 rfl ?_
        refine r_iconst hb 26 dX2_dropOldest_25 rfl ?_
        refine r_isubZ hb 27 ((((k - 1 : Nat) : Nat) : Int)) dX2_dropOldest_26 rfl (by omega) ?_
        refine r_aload_n hb 28 dX2_dropOldest_27 rfl 2 rfl ?_
        refine r_get hb ho 31 dX2_dropOldest_28 rfl lk_X2_11 pf_X2_0 hc rfl ?_
        refine r_iload_n hb 32 dX2_dropOldest_31 rfl 1 rfl ?_
        refine r_aald hb 33 dX2_dropOldest_32 rfl ha (by decide) k (by omega) (⟨by omega, by omega⟩) (qa k) (g3 k (by omega) (by omega)) ?_
        have hqk := hs1 k (by omega)
        obtain ⟨h_k, pa_k, xs_k, hg_k, -⟩ := (hPg k (by omega)).off hO (by omega)
        refine r_aast hb 34 dX2_dropOldest_33 rfl ha hg_k.1 rfl (Or.inr (Or.inr ⟨rfl, rfl⟩)) (((k - 1 : Nat))) (by omega) (⟨by omega, by omega⟩) (fun w_33 hw_33 => ?_)
        have ow_33 := pset_off hw_33
        have xw_33 : w_33 (h + 1) = some (eQ 4 6 (va_up hi (((k - 1 : Nat))) (some (qa k)))) := by rw [hw_33]; exact pset_eq _ _ _
        have hc : w_33 h = some (eO 2 [.ref (h + 1), .int (iI (((hs.length : Nat) : Int)))]) := (ow_33 _ (by omega)).trans hc
        refine r_aload_n hb 35 dX2_dropOldest_34 rfl 2 rfl ?_
        refine r_get hb ho 38 dX2_dropOldest_35 rfl lk_X2_11 pf_X2_0 hc rfl ?_
        refine r_iload_n hb 39 dX2_dropOldest_38 rfl 1 rfl ?_
        refine r_aload_n hb 40 dX2_dropOldest_39 rfl 0 rfl ?_
        have hq0 := hs1 0 (by omega)
        obtain ⟨h_0, pa_0, xs_0, hg_0, -⟩ := ((hPg 0 (by omega)).off hO (by omega)).off ow_33 (by omega)
        refine r_aast hb 41 dX2_dropOldest_40 rfl xw_33 hg_0.1 rfl (Or.inr (Or.inr ⟨rfl, rfl⟩)) k (by omega) (⟨by omega, by omega⟩) (fun w_40 hw_40 => ?_)
        have ow_40 := pset_off hw_40
        have xw_40 : w_40 (h + 1) = some (eQ 4 6 (va_up (va_up hi (((k - 1 : Nat))) (some (qa k))) k (some (qa 0)))) := by rw [hw_40]; exact pset_eq _ _ _
        have hc : w_40 h = some (eO 2 [.ref (h + 1), .int (iI (((hs.length : Nat) : Int)))]) := (ow_40 _ (by omega)).trans hc
        refine r_iinc [(1, .int (iI (((k : Nat) : Int) + 1))), (2, .ref (qa 0)), (0, .ref h)] hb 44 3 1 dX2_dropOldest_41 rfl rfl hnL (by decide) (((k : Nat) : Int) + 1) (by omega) rfl ?_
        refine r_goto hb 2 dX2_dropOldest_44 (by decide) ?_
        refine r_lv [(1, .int (iI (((k + 1 : Nat)) : Int))), (0, .ref h)] [0, 2] rfl ?_
        refine ih_lp (6 - (k + 1)) (by omega) (k + 1) _ _ rfl (by omega) (by omega) hc xw_40 ?_ ?_ ?_ ((hO.trans (ow_33.mono (by omega) (by omega))).trans (ow_40.mono (by omega) (by omega)))
        · intro j hj
          simp only [va_up]
          rw [if_neg (by omega)]
          by_cases e : j = k - 1
          · rw [if_pos e, e, show k - 1 + 1 = k by omega]
          · rw [if_neg e]; exact g2 j (by omega)
        · simp only [va_up]
          rw [if_pos (by omega)]
        · intro j hj hj2
          simp only [va_up]; rw [if_neg (by omega), if_neg (by omega)]; exact g3 j (by omega) hj2
  refine r_lv [(1, .int (iI (((1 : Nat)) : Int))), (0, .ref h)] [0, 1] rfl ?_
  exact lp _ 1 _ ph rfl (Nat.le_refl _) (by omega) hc ha (fun j hj => absurd hj (by omega)) (hh 0 (by omega)) (fun j _ hj => hh j hj) (off.rfl' _ _ _)

abbrev rm_X2_record : Room := { frames := 5, cells := 0, slots := 0, locals := 109 }
set_option maxHeartbeats 4000000 in
set_option maxRecDepth 100000 in
theorem c_X2_record (h g nx : Nat) (D : List Int32) (l : List Nt) (hs : List Pg) {w : PW} {n : Nat} (hS0 : hst w h hs) (hP : pg w g D l nx) (hd : h + 446 ≤ g ∨ g + 74 ≤ h) : Ct0 yX2_record cX2_record 2 none rm_X2_record [.ref h, .ref g] w n (fun w1 n1 => n = n1 ∧ hst w1 h (recH hs (D, l, nx)) ∧ off w w1 h (h + 446)) := by
  obtain ⟨ph, qa, P, hO0, hx⟩ := id hS0
  obtain ⟨hc, ha, hh, ⟨hs1, hs2⟩, hPg, hcl⟩ := id hO0
  refine Ctr.of rfl (Nat.le_of_ble_eq_true rfl) fun S hS => ?_
  have hb : S.1.1 = cX2_record := by rw [hS]; rfl
  have ho : S.1.2.1 = RX2 := by rw [hS]; rfl
  have hnL : S.1.2.2.1 = 2 := by rw [hS]; rfl
  have hR0 : S.2.1 = rm_X2_record := by rw [hS]; rfl
  show Wp S 0 [(0, .ref h), (1, .ref g)] [] w n 0 0
  refine r_aload_n hb 1 dX2_record_0 rfl 0 rfl ?_
  refine r_get hb ho 4 dX2_record_1 rfl lk_X2_18 pf_X2_1 hc rfl ?_
  refine r_aload_n hb 5 dX2_record_4 rfl 0 rfl ?_
  refine r_get hb ho 8 dX2_record_5 rfl lk_X2_11 pf_X2_0 hc rfl ?_
  refine r_alen hb 9 dX2_record_8 rfl ha (by decide) 6 rfl ?_
  refine r_icmp_lt hb 12 16 dX2_record_9 rfl (by decide) (by omega) (by omega) (fun c9 => ?_) (fun c9 => ?_)
  · refine r_aload_n hb 17 dX2_record_16 rfl 0 rfl ?_
    refine r_get hb ho 20 dX2_record_17 rfl lk_X2_18 pf_X2_1 hc rfl ?_
    refine r_if_lt hb 23 58 dX2_record_20 rfl (by decide) (by omega) (fun c20 => ?_) (fun c20 => ?_)
    · exfalso; omega
    · refine r_aload_n hb 24 dX2_record_23 rfl 0 rfl ?_
      refine r_get hb ho 27 dX2_record_24 rfl lk_X2_18 pf_X2_1 hc rfl ?_
      refine r_aload_n hb 28 dX2_record_27 rfl 0 rfl ?_
      refine r_get hb ho 31 dX2_record_28 rfl lk_X2_11 pf_X2_0 hc rfl ?_
      refine r_alen hb 32 dX2_record_31 rfl ha (by decide) 6 rfl ?_
      refine r_icmp_ge hb 35 58 dX2_record_32 rfl (by decide) (by omega) (by omega) (fun c32 => ?_) (fun c32 => ?_)
      · exfalso; omega
      · refine r_aload_n hb 36 dX2_record_35 rfl 0 rfl ?_
        refine r_get hb ho 39 dX2_record_36 rfl lk_X2_11 pf_X2_0 hc rfl ?_
        refine r_aload_n hb 40 dX2_record_39 rfl 0 rfl ?_
        refine r_get hb ho 43 dX2_record_40 rfl lk_X2_18 pf_X2_1 hc rfl ?_
        refine r_aald hb 44 dX2_record_43 rfl ha (by decide) hs.length (by omega) (⟨by omega, by omega⟩) (qa hs.length) (hh _ (by omega)) ?_
        obtain ⟨h_1, pa_1, xs_1, hg_1, -⟩ := hPg hs.length (by omega)
        have pc := hg_1.1
        have hqc := hs1 hs.length (by omega)
        refine r_aload_n hb 45 dX2_record_44 rfl 1 rfl ?_
        refine r_callV0 (st := []) hb ho 48 dX2_record_45 rfl ck_X2_25 (c_X4_become (qa hs.length) (P hs.length).2.2 g nx (P hs.length).1 D (P hs.length).2.1 l (hPg _ (by omega)) hP (by omega)) rfl rfl (pc) rfl rfl (by rw [hR0]; exact ⟨Nat.le_of_ble_eq_true rfl, Nat.le_of_ble_eq_true rfl⟩) (Nat.le_of_ble_eq_true rfl) ⟨rfl, rfl⟩ (by rw [hR0]; exact Nat.zero_le _) (by rw [hR0]; exact Nat.zero_le _) (fun w_45 nw_45 qw_45 => ?_)
        obtain ⟨rfl, hnew, ow_45⟩ := qw_45
        have hc : w_45 h = some (eO 2 [.ref (h + 1), .int (iI (((hs.length : Nat) : Int)))]) := (ow_45 _ (by omega)).trans hc
        have ha : w_45 (h + 1) = some (eQ 4 6 ph) := (ow_45 _ (by omega)).trans ha
        refine r_aload_n hb 49 dX2_record_48 rfl 0 rfl ?_
        refine r_dup hb 50 dX2_record_49 rfl rfl ?_
        refine r_get hb ho 53 dX2_record_50 rfl lk_X2_18 pf_X2_1 hc rfl ?_
        refine r_iconst hb 54 dX2_record_53 rfl ?_
        refine r_iaddZ hb 55 (((hs.length : Nat) : Int) + 1) dX2_record_54 rfl (by omega) ?_
        refine r_put hb ho 58 dX2_record_55 rfl lk_X2_18 pf_X2_1 hc (Nat.le_of_ble_eq_true rfl) ⟨rfl, rfl⟩ (fun w_55 hw_55 => ?_)
        have ow_55 := pset_off hw_55
        have xw_55 : w_55 h = some (eO 2 [.ref (h + 1), .int (iI (((hs.length : Nat) : Int) + 1))]) := by rw [hw_55]; exact pset_eq _ _ _
        have ha : w_55 (h + 1) = some (eQ 4 6 ph) := (ow_55 _ (by omega)).trans ha
        refine r_vret hS dX2_record_58 rfl (Nat.zero_le _) (Nat.zero_le _) ?_
        have er : recH hs (D, l, nx) = hs ++ [(D, l, nx)] := by unfold recH; rw [if_pos (by omega)]
        rw [er]
        refine ⟨rfl, rfl, ⟨ph, qa, fun j => if j = (hs).length then (D, l, nx) else P j, ⟨by rw [List.length_append]; exact xw_55, ha, hh, ⟨hs1, hs2⟩, ?_, by simp; omega⟩, ?_⟩, ((ow_45.mono (by omega) (by omega)).trans (ow_55.mono (by omega) (by omega)))⟩
        · intro j hj
          by_cases e : j = (hs).length
          · simp only [e, if_true]; exact hnew.off ow_55 (by omega)
          · simp only [e, if_false]
            exact ((hPg j hj).off ow_45 (by have := hs2 j (hs).length hj (by omega) e; omega)).off ow_55 (by have := hs1 j hj; omega)
        · intro j hj
          rw [List.length_append] at hj
          by_cases e : j = (hs).length
          · simp only [e, if_true]; exact (hg_app2 _ _).symm
          · have h3 : j < (hs).length := by have h4 := hj; simp only [List.length_cons, List.length_nil] at h4; omega
            simp only [e, if_false]; rw [hg_app1 _ _ h3]; exact hx j h3
  · refine r_aload_n hb 13 dX2_record_12 rfl 0 rfl ?_
    refine r_callV0 (st := []) hb ho 16 dX2_record_13 rfl ck_X2_22 (c_X2_dropOldest h hs hS0 (by omega)) rfl rfl (hc) rfl rfl (by rw [hR0]; exact ⟨Nat.le_of_ble_eq_true rfl, Nat.le_of_ble_eq_true rfl⟩) (Nat.le_of_ble_eq_true rfl) ⟨rfl, rfl⟩ (by rw [hR0]; exact Nat.zero_le _) (by rw [hR0]; exact Nat.zero_le _) (fun w_13 nw_13 qw_13 => ?_)
    obtain ⟨rfl, hS0, ow_13⟩ := qw_13
    have hP := hP.off ow_13 (by omega)
    obtain ⟨ph, qa, P, hO0, hx⟩ := id hS0
    obtain ⟨hc, ha, hh, ⟨hs1, hs2⟩, hPg, hcl⟩ := id hO0
    have hcd : (hs.drop 1).length = 5 := by simp; omega
    refine r_aload_n hb 17 dX2_record_16 rfl 0 rfl ?_
    refine r_get hb ho 20 dX2_record_17 rfl lk_X2_18 pf_X2_1 hc rfl ?_
    refine r_if_lt hb 23 58 dX2_record_20 rfl (by decide) (by omega) (fun c20 => ?_) (fun c20 => ?_)
    · exfalso; omega
    · refine r_aload_n hb 24 dX2_record_23 rfl 0 rfl ?_
      refine r_get hb ho 27 dX2_record_24 rfl lk_X2_18 pf_X2_1 hc rfl ?_
      refine r_aload_n hb 28 dX2_record_27 rfl 0 rfl ?_
      refine r_get hb ho 31 dX2_record_28 rfl lk_X2_11 pf_X2_0 hc rfl ?_
      refine r_alen hb 32 dX2_record_31 rfl ha (by decide) 6 rfl ?_
      refine r_icmp_ge hb 35 58 dX2_record_32 rfl (by decide) (by omega) (by omega) (fun c32 => ?_) (fun c32 => ?_)
      · exfalso; omega
      · refine r_aload_n hb 36 dX2_record_35 rfl 0 rfl ?_
        refine r_get hb ho 39 dX2_record_36 rfl lk_X2_11 pf_X2_0 hc rfl ?_
        refine r_aload_n hb 40 dX2_record_39 rfl 0 rfl ?_
        refine r_get hb ho 43 dX2_record_40 rfl lk_X2_18 pf_X2_1 hc rfl ?_
        refine r_aald hb 44 dX2_record_43 rfl ha (by decide) ((hs.drop 1).length) (by omega) (⟨by omega, by omega⟩) (qa (hs.drop 1).length) (hh _ (by omega)) ?_
        obtain ⟨h_1, pa_1, xs_1, hg_1, -⟩ := hPg ((hs.drop 1).length) (by omega)
        have pc := hg_1.1
        have hqc := hs1 ((hs.drop 1).length) (by omega)
        refine r_aload_n hb 45 dX2_record_44 rfl 1 rfl ?_
        refine r_callV0 (st := []) hb ho 48 dX2_record_45 rfl ck_X2_25 (c_X4_become (qa ((hs.drop 1).length)) (P ((hs.drop 1).length)).2.2 g nx (P ((hs.drop 1).length)).1 D (P ((hs.drop 1).length)).2.1 l (hPg _ (by omega)) hP (by omega)) rfl rfl (pc) rfl rfl (by rw [hR0]; exact ⟨Nat.le_of_ble_eq_true rfl, Nat.le_of_ble_eq_true rfl⟩) (Nat.le_of_ble_eq_true rfl) ⟨rfl, rfl⟩ (by rw [hR0]; exact Nat.zero_le _) (by rw [hR0]; exact Nat.zero_le _) (fun w_45 nw_45 qw_45 => ?_)
        obtain ⟨rfl, hnew, ow_45⟩ := qw_45
        have hc : w_45 h = some (eO 2 [.ref (h + 1), .int (iI ((((hs.drop 1).length : Nat) : Int)))]) := (ow_45 _ (by omega)).trans hc
        have ha : w_45 (h + 1) = some (eQ 4 6 ph) := (ow_45 _ (by omega)).trans ha
        refine r_aload_n hb 49 dX2_record_48 rfl 0 rfl ?_
        refine r_dup hb 50 dX2_record_49 rfl rfl ?_
        refine r_get hb ho 53 dX2_record_50 rfl lk_X2_18 pf_X2_1 hc rfl ?_
        refine r_iconst hb 54 dX2_record_53 rfl ?_
        refine r_iaddZ hb 55 ((((hs.drop 1).length : Nat) : Int) + 1) dX2_record_54 rfl (by omega) ?_
        refine r_put hb ho 58 dX2_record_55 rfl lk_X2_18 pf_X2_1 hc (Nat.le_of_ble_eq_true rfl) ⟨rfl, rfl⟩ (fun w_55 hw_55 => ?_)
        have ow_55 := pset_off hw_55
        have xw_55 : w_55 h = some (eO 2 [.ref (h + 1), .int (iI ((((hs.drop 1).length : Nat) : Int) + 1))]) := by rw [hw_55]; exact pset_eq _ _ _
        have ha : w_55 (h + 1) = some (eQ 4 6 ph) := (ow_55 _ (by omega)).trans ha
        refine r_vret hS dX2_record_58 rfl (Nat.zero_le _) (Nat.zero_le _) ?_
        have er : recH hs (D, l, nx) = (hs.drop 1) ++ [(D, l, nx)] := by unfold recH; rw [if_neg (by omega)]
        rw [er]
        refine ⟨rfl, rfl, ⟨ph, qa, fun j => if j = ((hs.drop 1)).length then (D, l, nx) else P j, ⟨by rw [List.length_append]; exact xw_55, ha, hh, ⟨hs1, hs2⟩, ?_, by simp; omega⟩, ?_⟩, (ow_13.trans ((ow_45.mono (by omega) (by omega)).trans (ow_55.mono (by omega) (by omega))))⟩
        · intro j hj
          by_cases e : j = ((hs.drop 1)).length
          · simp only [e, if_true]; exact hnew.off ow_55 (by omega)
          · simp only [e, if_false]
            exact ((hPg j hj).off ow_45 (by have := hs2 j ((hs.drop 1)).length hj (by omega) e; omega)).off ow_55 (by have := hs1 j hj; omega)
        · intro j hj
          rw [List.length_append] at hj
          by_cases e : j = ((hs.drop 1)).length
          · simp only [e, if_true]; exact (hg_app2 _ _).symm
          · have h3 : j < ((hs.drop 1)).length := by have h4 := hj; simp only [List.length_cons, List.length_nil] at h4; omega
            simp only [e, if_false]; rw [hg_app1 _ _ h3]; exact hx j h3

abbrev rm_X2_stepBack : Room := { frames := 5, cells := 0, slots := 0, locals := 109 }
set_option maxHeartbeats 4000000 in
set_option maxRecDepth 100000 in
theorem c_X2_stepBack (h g nx : Nat) (D : List Int32) (l : List Nt) (hs : List Pg) {w : PW} {n : Nat} (hS0 : hst w h hs) (hP : pg w g D l nx) (hd : h + 446 ≤ g ∨ g + 74 ≤ h) (hne : 0 < hs.length) : Ct0 yX2_stepBack cX2_stepBack 2 none rm_X2_stepBack [.ref h, .ref g] w n (fun w1 n1 => n = n1 ∧ hst w1 h (hs.take (hs.length - 1)) ∧ pgP w1 g (hg hs (hs.length - 1)) ∧ off2 w w1 h (h + 446) g (g + 74)) := by
  obtain ⟨ph, qa, P, hO0, hx⟩ := id hS0
  obtain ⟨hc, ha, hh, ⟨hs1, hs2⟩, hPg, hcl⟩ := id hO0
  refine Ctr.of rfl (Nat.le_of_ble_eq_true rfl) fun S hS => ?_
  have hb : S.1.1 = cX2_stepBack := by rw [hS]; rfl
  have ho : S.1.2.1 = RX2 := by rw [hS]; rfl
  have hnL : S.1.2.2.1 = 2 := by rw [hS]; rfl
  have hR0 : S.2.1 = rm_X2_stepBack := by rw [hS]; rfl
  show Wp S 0 [(0, .ref h), (1, .ref g)] [] w n 0 0
  refine r_aload_n hb 1 dX2_stepBack_0 rfl 0 rfl ?_
  refine r_get hb ho 4 dX2_stepBack_1 rfl lk_X2_18 pf_X2_1 hc rfl ?_
  refine r_if_le hb 7 42 dX2_stepBack_4 rfl (by decide) (by omega) (fun c4 => ?_) (fun c4 => ?_)
  · exfalso; omega
  · refine r_aload_n hb 8 dX2_stepBack_7 rfl 0 rfl ?_
    refine r_get hb ho 11 dX2_stepBack_8 rfl lk_X2_18 pf_X2_1 hc rfl ?_
    refine r_aload_n hb 12 dX2_stepBack_11 rfl 0 rfl ?_
    refine r_get hb ho 15 dX2_stepBack_12 rfl lk_X2_11 pf_X2_0 hc rfl ?_
    refine r_alen hb 16 dX2_stepBack_15 rfl ha (by decide) 6 rfl ?_
    refine r_icmp_gt hb 19 42 dX2_stepBack_16 rfl (by decide) (by omega) (by omega) (fun c16 => ?_) (fun c16 => ?_)
    · exfalso; omega
    · refine r_aload_n hb 20 dX2_stepBack_19 rfl 0 rfl ?_
      refine r_dup hb 21 dX2_stepBack_20 rfl rfl ?_
      refine r_get hb ho 24 dX2_stepBack_21 rfl lk_X2_18 pf_X2_1 hc rfl ?_
      refine r_iconst hb 25 dX2_stepBack_24 rfl ?_
      refine r_isubZ hb 26 ((((hs.length - 1 : Nat) : Nat) : Int)) dX2_stepBack_25 rfl (by omega) ?_
      refine r_put hb ho 29 dX2_stepBack_26 rfl lk_X2_18 pf_X2_1 hc (Nat.le_of_ble_eq_true rfl) ⟨rfl, rfl⟩ (fun w_26 hw_26 => ?_)
      have ow_26 := pset_off hw_26
      have xw_26 : w_26 h = some (eO 2 [.ref (h + 1), .int (iI ((((hs.length - 1 : Nat) : Nat) : Int)))]) := by rw [hw_26]; exact pset_eq _ _ _
      have ha : w_26 (h + 1) = some (eQ 4 6 ph) := (ow_26 _ (by omega)).trans ha
      have hP : pg w_26 g D l nx := hP.off ow_26 (by omega)
      obtain ⟨h_2, pa_2, xs_2, hg_2, -⟩ := id hP
      have pcg := hg_2.1
      refine r_aload_n hb 30 dX2_stepBack_29 rfl 1 rfl ?_
      refine r_aload_n hb 31 dX2_stepBack_30 rfl 0 rfl ?_
      refine r_get hb ho 34 dX2_stepBack_31 rfl lk_X2_11 pf_X2_0 xw_26 rfl ?_
      refine r_aload_n hb 35 dX2_stepBack_34 rfl 0 rfl ?_
      refine r_get hb ho 38 dX2_stepBack_35 rfl lk_X2_18 pf_X2_1 xw_26 rfl ?_
      refine r_aald hb 39 dX2_stepBack_38 rfl ha (by decide) (hs.length - 1) (by omega) (⟨by omega, by omega⟩) (qa (hs.length - 1)) (hh (hs.length - 1) (by omega)) ?_
      obtain ⟨h_, pa_, xs_, hg_, -⟩ := hPg (hs.length - 1) (by omega)
      have pc := hg_.1
      have hq := hs1 (hs.length - 1) (by omega)
      have hPk := (hPg (hs.length - 1) (by omega)).off ow_26 (by omega)
      refine r_callV0 (st := []) hb ho 42 dX2_stepBack_39 rfl ck_X2_25 (c_X4_become g nx (qa (hs.length - 1)) (P (hs.length - 1)).2.2 D (P (hs.length - 1)).1 l (P (hs.length - 1)).2.1 hP hPk (by omega)) rfl rfl (pcg) rfl rfl (by rw [hR0]; exact ⟨Nat.le_of_ble_eq_true rfl, Nat.le_of_ble_eq_true rfl⟩) (Nat.le_of_ble_eq_true rfl) ⟨rfl, rfl⟩ (by rw [hR0]; exact Nat.zero_le _) (by rw [hR0]; exact Nat.zero_le _) (fun w_39 nw_39 qw_39 => ?_)
      obtain ⟨rfl, hnew, ow_39⟩ := qw_39
      have xw_26 : w_39 h = some (eO 2 [.ref (h + 1), .int (iI ((((hs.length - 1 : Nat) : Nat) : Int)))]) := (ow_39 _ (by omega)).trans xw_26
      have ha : w_39 (h + 1) = some (eQ 4 6 ph) := (ow_39 _ (by omega)).trans ha
      refine r_vret hS dX2_stepBack_42 rfl (Nat.zero_le _) (Nat.zero_le _) ?_
      refine ⟨rfl, rfl, ⟨ph, qa, P, ⟨by rw [List.length_take, Nat.min_eq_left (by omega)]; exact xw_26, ha, hh, ⟨hs1, hs2⟩, fun j hj => ((hPg j hj).off ow_26 (by have := hs1 j hj; omega)).off ow_39 (by have := hs1 j hj; omega), by rw [List.length_take]; omega⟩, fun j hj => ?_⟩, by rw [← hx _ (by omega)]; exact hnew, (off_l ow_26 (by omega) (by omega) _ _).trans (off_r ow_39 (by omega) (by omega) _ _)⟩
      rw [List.length_take] at hj
      rw [hg_take _ (by omega)]
      exact hx j (by omega)

abbrev rm_X2_init : Room := { frames := 4, cells := 445, slots := 3342, locals := 83 }
set_option maxHeartbeats 4000000 in
set_option maxRecDepth 100000 in
theorem c_X2_init (h : Nat) {w : PW}  (h0 : w h = some (eO 2 [.null, .int (iI 0)])) : Ct0 yX2_init cX2_init 2 none rm_X2_init [.ref h] w (h + 1) (fun w1 n1 => n1 = h + 446 ∧ hst w1 h [] ∧ off w w1 h (h + 446)) := by
  refine Ctr.of rfl (Nat.le_of_ble_eq_true rfl) fun S hS => ?_
  have hb : S.1.1 = cX2_init := by rw [hS]; rfl
  have ho : S.1.2.1 = RX2 := by rw [hS]; rfl
  have hnL : S.1.2.2.1 = 2 := by rw [hS]; rfl
  have hR0 : S.2.1 = rm_X2_init := by rw [hS]; rfl
  have hnm : S.1.2.2.2.2 = "<init>" := by rw [hS]; rfl
  show Wp S 0 [(0, .ref h)] [] w (h + 1) 0 0
  refine r_aload_n hb 1 dX2_init_0 rfl 0 rfl ?_
  refine r_objInit hb ho 4 dX2_init_1 rfl ck_X2_3 ob_i ob_c (by rw [hR0]; exact Nat.le_of_ble_eq_true rfl) (by rw [hR0]; exact Nat.le_of_ble_eq_true rfl) ?_
  refine r_aload_n hb 5 dX2_init_4 rfl 0 rfl ?_
  refine r_bipush 6 hb 7 dX2_init_5 rfl rfl ?_
  refine r_newQ (N := 6) (k := 4) hb ho 10 dX2_init_7 rfl (fun _ => rfl) kc_X2_9 ko_X4 (rfl) (by omega) (by rw [hR0]; exact Nat.le_of_ble_eq_true rfl) (by rw [hR0]; exact Nat.le_of_ble_eq_true rfl) (fun w_7 hw_7 => ?_)
  have ow_7 := pset_off hw_7
  have fw_7 : w_7 (h + 1) = some (eQ 4 6 (fun _ => none)) := by rw [hw_7]; exact pset_eq _ _ _
  have h0 : w_7 h = some (eO 2 [.null, .int (iI 0)]) := (ow_7 _ (by omega)).trans h0
  refine r_putF hb ho hnm rfl 13 dX2_init_10 rfl lkw_X2_11 pf_X2_0 h0 (Nat.le_of_ble_eq_true rfl) ⟨rfl, rfl⟩ (fun w_10 hw_10 => ?_)
  have ow_10 := pset_off hw_10
  have xw_10 : w_10 h = some (eO 2 [.ref ((h + 1)), .int (iI 0)]) := by rw [hw_10]; exact pset_eq _ _ _
  have fw_7 : w_10 (h + 1) = some (eQ 4 6 (fun _ => none)) := (ow_10 _ (by omega)).trans fw_7
  refine r_iconst hb 14 dX2_init_13 rfl ?_
  refine r_istore_n [(1, .int (iI 0)), (0, .ref h)] hb 15 2 dX2_init_14 rfl rfl hnL (by decide) rfl ?_
  have lp : ∀ (d : Nat) (i : Nat) (wi : PW) (hi : Nat → Option Nat), 6 - i = d → (i ≤ 6) → (wi h = some (eO 2 [.ref (h + 1), .int (iI 0)])) → (wi (h + 1) = some (eQ 4 6 hi)) → (∀ j, j < i → hi j = some (h + 2 + 74 * j)) → (∀ j, j < i → pg wi (h + 2 + 74 * j) [] [] 0) → (off w wi h (h + 446)) → Wp S 15 [(1, .int (iI (((i : Nat) : Int)))), (0, .ref h)] [] wi (h + 2 + 74 * i) (1 + 74 * i) (6 + 556 * i) := by
    intro d
    induction d using Nat.strongRecOn with
    | _ d ih_lp =>
      intro i wi hi hd_lp hi6 hc ha hh hpg hO
      refine r_iload_n hb 16 dX2_init_15 rfl 0 rfl ?_
      refine r_aload_n hb 17 dX2_init_16 rfl 1 rfl ?_
      refine r_get hb ho 20 dX2_init_17 rfl lk_X2_11 pf_X2_0 hc rfl ?_
      refine r_alen hb 21 dX2_init_20 rfl ha (by decide) 6 rfl ?_
      refine r_icmp_ge hb 24 43 dX2_init_21 rfl (by decide) (by omega) (by omega) (fun c21 => ?_) (fun c21 => ?_)
      · refine r_vret hS dX2_init_43 rfl ((by show 1 + 74 * i ≤ 445; omega)) ((by show 6 + 556 * i ≤ 3342; omega)) ?_
        have ei : i = 6 := by omega
        subst ei
        exact ⟨rfl, rfl, ⟨hi, fun j => h + 2 + 74 * j, fun _ => pg0, ⟨hc, ha, hh, ⟨fun j hj => by show h + 2 ≤ h + 2 + 74 * j ∧ h + 2 + 74 * j + 74 ≤ h + 446; omega, fun a b ha hb hab => by show h + 2 + 74 * a + 74 ≤ h + 2 + 74 * b ∨ h + 2 + 74 * b + 74 ≤ h + 2 + 74 * a; omega⟩, hpg, by decide⟩, fun j hj => absurd hj (Nat.not_lt_zero _)⟩, hO⟩
      · refine r_aload_n hb 25 dX2_init_24 rfl 1 rfl ?_
        refine r_get hb ho 28 dX2_init_25 rfl lk_X2_11 pf_X2_0 hc rfl ?_
        refine r_iload_n hb 29 dX2_init_28 rfl 0 rfl ?_
        refine r_new hb ho 32 dX2_init_29 rfl (kn_X4 kc_X2_9) (by rw [hR0]; show 1 + 74 * i + 1 ≤ 445; omega) (by rw [hR0]; show 6 + 556 * i + 4 ≤ 3342; omega) (fun w_29 hw_29 => ?_)
        have ow_29 := pset_off hw_29
        have fw_29 : w_29 (h + 2 + 74 * i) = some (eO 4 [.null, .null, .int (iI 0), .int (iI 0)]) := by rw [hw_29]; exact pset_eq _ _ _
        have hc : w_29 h = some (eO 2 [.ref (h + 1), .int (iI 0)]) := (ow_29 _ (by omega)).trans hc
        have ha : w_29 (h + 1) = some (eQ 4 6 hi) := (ow_29 _ (by omega)).trans ha
        refine r_dup hb 33 dX2_init_32 rfl rfl ?_
        refine r_callN0 (st := [.ref ((h + 2 + 74 * i)), .int (iI (((i : Nat) : Int))), .ref (h + 1)]) hb ho 36 dX2_init_33 rfl ck_X2_17 (c_X4_init (h + 2 + 74 * i) fw_29) rfl rfl (by rw [hR0]; exact ⟨Nat.le_of_ble_eq_true rfl, Nat.le_of_ble_eq_true rfl⟩) (Nat.le_of_ble_eq_true rfl) (by rw [hR0]; show 1 + 74 * i + 1 + 73 ≤ 445; omega) (by rw [hR0]; show 6 + 556 * i + 4 + 552 ≤ 3342; omega) (fun w_33 nw_33 qw_33 => ?_)
        obtain ⟨rfl, hpp, ow_33⟩ := qw_33
        have hc : w_33 h = some (eO 2 [.ref (h + 1), .int (iI 0)]) := (ow_33 _ (by omega)).trans hc
        have ha : w_33 (h + 1) = some (eQ 4 6 hi) := (ow_33 _ (by omega)).trans ha
        obtain ⟨h_9, pa_9, xs_9, hg_9, -⟩ := id hpp
        have pc9 := hg_9.1
        refine r_aast hb 37 dX2_init_36 rfl ha pc9 rfl (Or.inr (Or.inr ⟨rfl, rfl⟩)) i (by omega) (⟨by omega, by omega⟩) (fun w_36 hw_36 => ?_)
        have ow_36 := pset_off hw_36
        have xw_36 : w_36 (h + 1) = some (eQ 4 6 (va_up hi i (some (h + 2 + 74 * i)))) := by rw [hw_36]; exact pset_eq _ _ _
        have hpp : pg w_36 (h + 2 + 74 * i) [] [] 0 := hpp.off ow_36 (by omega)
        have pc9 : w_36 (h + 2 + 74 * i) = some (eO 4 [.ref (h + 2 + 74 * i + 1), .ref (h + 2 + 74 * i + 3), .int (iI (((([] : List Nt).length : Nat) : Int))), .int (iI (((0 : Nat) : Int)))]) := (ow_36 _ (by omega)).trans pc9
        have hc : w_36 h = some (eO 2 [.ref (h + 1), .int (iI 0)]) := (ow_36 _ (by omega)).trans hc
        refine r_iinc [(1, .int (iI (((i : Nat) : Int) + 1))), (0, .ref h)] hb 40 2 0 dX2_init_37 rfl rfl hnL (by decide) (((i : Nat) : Int) + 1) (by omega) rfl ?_
        refine r_goto hb 15 dX2_init_40 (by decide) ?_
        refine r_lv [(1, .int (iI (((i + 1 : Nat)) : Int))), (0, .ref h)] [0, 1] rfl ?_
        refine r_widen (1 + 74 * (i + 1)) (6 + 556 * (i + 1)) (by show 1 + 74 * i + 1 + 73 ≤ _; omega) (by show 6 + 556 * i + 4 + 552 ≤ _; omega) ?_
        rw [show h + 2 + 74 * i + 74 = h + 2 + 74 * (i + 1) by omega]
        refine ih_lp (6 - (i + 1)) (by omega) (i + 1) _ _ rfl (by omega) hc xw_36 ?_ ?_ (((hO.trans (ow_29.mono (by omega) (by omega))).trans (ow_33.mono (by omega) (by omega))).trans (ow_36.mono (by omega) (by omega)))
        · intro j hj
          simp only [va_up]
          by_cases e : j = i
          · rw [if_pos e, e]
          · rw [if_neg e]; exact hh j (by omega)
        · intro j hj
          by_cases e : j = i
          · subst e; exact hpp
          · exact (((hpg j (by omega)).off ow_29 (by omega)).off ow_33 (by omega)).off ow_36 (by omega)
  refine r_widen (1 + 74 * 0) (6 + 556 * 0) (Nat.le_of_ble_eq_true rfl) (Nat.le_of_ble_eq_true rfl) ?_
  refine r_lv [(1, .int (iI (((0 : Nat)) : Int))), (0, .ref h)] [0, 1] rfl ?_
  exact lp _ 0 _ _ rfl (Nat.zero_le _) xw_10 fw_7 (fun j hj => absurd hj (Nat.not_lt_zero _)) (fun j hj => absurd hj (Nat.not_lt_zero _)) ((ow_7.mono (by omega) (by omega)).trans (ow_10.mono (by omega) (by omega)))

/-- a slot at s .. s + 74 -/
def slt (w : PW) (s : Nat) (o : Option (Pg × Int)) : Prop := ∃ (p : Pg) (thr : Int), w s = some (eO 6 [.ref (s + 1), .int (iI thr), .int (bI o.isSome)]) ∧ pgP w (s + 1) p ∧ ∀ v, o = some v → v = (p, thr)
theorem slt.off {w w1 : PW} {s lo hi : Nat} {o : Option (Pg × Int)} (h : slt w s o) (of : off w w1 lo hi) (d : s + 75 ≤ lo ∨ hi ≤ s) : slt w1 s o := by
  obtain ⟨p, t, h1, h2, h3⟩ := h
  exact ⟨p, t, (of _ (by omega)).trans h1, h2.off of (by omega), h3⟩
theorem slt.off2 {w w1 : PW} {s lo hi lo2 hi2 : Nat} {o : Option (Pg × Int)} (h : slt w s o) (of : off2 w w1 lo hi lo2 hi2) (d : s + 75 ≤ lo ∨ hi ≤ s) (d2 : s + 75 ≤ lo2 ∨ hi2 ≤ s) : slt w1 s o := by
  obtain ⟨p, t, h1, h2, h3⟩ := h
  exact ⟨p, t, (of _ (by omega) (by omega)).trans h1, h2.off2 of (by omega) (by omega), h3⟩
abbrev rm_X6_init : Room := { frames := 4, cells := 74, slots := 556, locals := 83 }
set_option maxHeartbeats 4000000 in
set_option maxRecDepth 100000 in
theorem c_X6_init (s : Nat) {w : PW}  (h0 : w s = some (eO 6 [.null, .int (iI 0), .int (iI 0)])) : Ct0 yX6_init cX6_init 1 none rm_X6_init [.ref s] w (s + 1) (fun w1 n1 => n1 = s + 75 ∧ slt w1 s none ∧ off w w1 s (s + 75)) := by
  refine Ctr.of rfl (Nat.le_of_ble_eq_true rfl) fun S hS => ?_
  have hb : S.1.1 = cX6_init := by rw [hS]; rfl
  have ho : S.1.2.1 = RX6 := by rw [hS]; rfl
  have hnL : S.1.2.2.1 = 1 := by rw [hS]; rfl
  have hR0 : S.2.1 = rm_X6_init := by rw [hS]; rfl
  have hnm : S.1.2.2.2.2 = "<init>" := by rw [hS]; rfl
  show Wp S 0 [(0, .ref s)] [] w (s + 1) 0 0
  refine r_aload_n hb 1 dX6_init_0 rfl 0 rfl ?_
  refine r_objInit hb ho 4 dX6_init_1 rfl ck_X6_1 ob_i ob_c (by rw [hR0]; exact Nat.le_of_ble_eq_true rfl) (by rw [hR0]; exact Nat.le_of_ble_eq_true rfl) ?_
  refine r_aload_n hb 5 dX6_init_4 rfl 0 rfl ?_
  refine r_new hb ho 8 dX6_init_5 rfl (kn_X4 kc_X6_7) (by rw [hR0]; exact Nat.le_of_ble_eq_true rfl) (by rw [hR0]; exact Nat.le_of_ble_eq_true rfl) (fun w_5 hw_5 => ?_)
  have ow_5 := pset_off hw_5
  have fw_5 : w_5 (s + 1) = some (eO 4 [.null, .null, .int (iI 0), .int (iI 0)]) := by rw [hw_5]; exact pset_eq _ _ _
  have h0 : w_5 s = some (eO 6 [.null, .int (iI 0), .int (iI 0)]) := (ow_5 _ (by omega)).trans h0
  refine r_dup hb 9 dX6_init_8 rfl rfl ?_
  refine r_callN0 (st := [.ref ((s + 1)), .ref s]) hb ho 12 dX6_init_9 rfl ck_X6_9 (c_X4_init (s + 1) fw_5) rfl rfl (by rw [hR0]; exact ⟨Nat.le_of_ble_eq_true rfl, Nat.le_of_ble_eq_true rfl⟩) (Nat.le_of_ble_eq_true rfl) (by rw [hR0]; exact Nat.le_of_ble_eq_true rfl) (by rw [hR0]; exact Nat.le_of_ble_eq_true rfl) (fun w_9 nw_9 qw_9 => ?_)
  obtain ⟨rfl, hpp, ow_9⟩ := qw_9
  have h0 : w_9 s = some (eO 6 [.null, .int (iI 0), .int (iI 0)]) := (ow_9 _ (by omega)).trans h0
  refine r_putF hb ho hnm rfl 15 dX6_init_12 rfl lkw_X6_10 pf_X6_0 h0 (Nat.le_of_ble_eq_true rfl) ⟨rfl, rfl⟩ (fun w_12 hw_12 => ?_)
  have ow_12 := pset_off hw_12
  have xw_12 : w_12 s = some (eO 6 [.ref ((s + 1)), .int (iI 0), .int (iI 0)]) := by rw [hw_12]; exact pset_eq _ _ _
  refine r_vret hS dX6_init_15 rfl (Nat.le_of_ble_eq_true rfl) (Nat.le_of_ble_eq_true rfl) ?_
  exact ⟨rfl, rfl, ⟨pg0, 0, xw_12, hpp.off ow_12 (by omega), fun v hv => absurd hv (by simp)⟩, ((ow_5.mono (by omega) (by omega)).trans (ow_9.mono (by omega) (by omega))).trans (ow_12.mono (by omega) (by omega))⟩
