def wv (sv uv : Int) : Int := if sv = -1005 then -1 else sv + uv
def mxF (sc b : Nat → Int) (p : Nat) : Nat → Int
  | 0 => b p
  | t + 1 => max (mxF sc b p t) (wv (sc (p + t)) (b (p + t)))
theorem upS_nn (sz : Nat) (sc b : Nat → Int) : ∀ k, 0 ≤ upS sz sc b k := by
  intro k
  induction k with
  | zero => exact Int.le_refl _
  | succ k ih => simp only [upS]; split <;> omega
theorem upS_le (sz : Nat) (sc b : Nat → Int) (k : Nat) : upS sz sc b k ≤ upS sz sc b (k + 1) := by simp only [upS]; split <;> omega
theorem upS_mono (sz : Nat) (sc b : Nat → Int) {j k : Nat} (h : j ≤ k) : upS sz sc b j ≤ upS sz sc b k := by
  obtain ⟨d, rfl⟩ := Nat.le.dest h
  induction d with
  | zero => exact Int.le_refl _
  | succ d ih => exact Int.le_trans (ih (by omega)) (upS_le sz sc b (j + d))
theorem upS_b (sz : Nat) (sc b : Nat → Int) : ∀ k t, t < k → b (120 - t) ≤ upS sz sc b k := by
  intro k
  induction k with
  | zero => intro t h; omega
  | succ k ih =>
    intro t h
    by_cases e : t = k
    · subst e; simp only [upS]; split <;> omega
    · exact Int.le_trans (ih t (by omega)) (upS_le sz sc b k)
theorem upS_s (sz : Nat) (sc b : Nat → Int) : ∀ k t, t < k → 120 - t < sz → sc (120 - t) ≠ -1005 → sc (120 - t) + b (120 - t) ≤ upS sz sc b k := by
  intro k
  induction k with
  | zero => intro t h; omega
  | succ k ih =>
    intro t h h1 h2
    by_cases e : t = k
    · subst e; simp only [upS]; rw [if_pos ⟨h1, h2⟩]; omega
    · exact Int.le_trans (ih t (by omega) h1 h2) (upS_le sz sc b k)
theorem upS_ub (sz : Nat) (sc b : Nat → Int) (X : Int) (h0 : 0 ≤ X) : ∀ k, (∀ t, t < k → b (120 - t) ≤ X) → (∀ t, t < k → 120 - t < sz → sc (120 - t) ≠ -1005 → sc (120 - t) + b (120 - t) ≤ X) → upS sz sc b k ≤ X := by
  intro k
  induction k with
  | zero => intro _ _; exact h0
  | succ k ih =>
    intro h1 h2
    have h3 := ih (fun t ht => h1 t (by omega)) (fun t ht => h2 t (by omega))
    have h4 := h1 k (by omega)
    simp only [upS]
    split
    · rename_i h5; have := h2 k (by omega) h5.1 h5.2; omega
    · omega
theorem mxF_b (sc b : Nat → Int) (p : Nat) : ∀ t, b p ≤ mxF sc b p t := by
  intro t
  induction t with
  | zero => exact Int.le_refl _
  | succ t ih => simp only [mxF]; omega
theorem mxF_s (sc b : Nat → Int) (p : Nat) : ∀ t u, u < t → wv (sc (p + u)) (b (p + u)) ≤ mxF sc b p t := by
  intro t
  induction t with
  | zero => intro u h; omega
  | succ t ih =>
    intro u h
    simp only [mxF]
    by_cases e : u = t
    · subst e; omega
    · have := ih u (by omega); omega
theorem mxF_ub (sc b : Nat → Int) (p : Nat) (X : Int) (h0 : b p ≤ X) : ∀ t, (∀ u, u < t → wv (sc (p + u)) (b (p + u)) ≤ X) → mxF sc b p t ≤ X := by
  intro t
  induction t with
  | zero => intro _; exact h0
  | succ t ih => intro h; have h1 := ih (fun u hu => h u (by omega)); have h2 := h t (by omega); simp only [mxF]; omega
theorem mx_up {sz p : Nat} {sc b : Nat → Int} (hp : p ≤ sz) (hz : sz ≤ 120) (hb : ∀ q, 0 ≤ b q) (ha : ∀ q, p ≤ q → q ≤ 120 → b q ≤ b p) : mxF sc b p (sz - p) = upS sz sc b (121 - p) := by
  apply Int.le_antisymm
  · apply mxF_ub
    · have := upS_b sz sc b (121 - p) (120 - p) (by omega); rw [show 120 - (120 - p) = p by omega] at this; exact this
    · intro u hu
      unfold wv
      split
      · have := upS_nn sz sc b (121 - p); omega
      · rename_i h; have := upS_s sz sc b (121 - p) (120 - (p + u)) (by omega); rw [show 120 - (120 - (p + u)) = p + u by omega] at this; exact this (by omega) h
  · apply upS_ub
    · have := mxF_b sc b p (sz - p); have := hb p; omega
    · intro t ht; have := mxF_b sc b p (sz - p); have := ha (120 - t) (by omega) (by omega); omega
    · intro t ht h1 h2
      have := mxF_s sc b p (sz - p) (120 - t - p) (by omega)
      rw [show p + (120 - t - p) = 120 - t by omega] at this
      unfold wv at this
      rw [if_neg h2] at this
      exact this
theorem smN_nn (l : List Nt) (D : List Int32) (thr : Int) (o : Nat → Nat) (c k p : Nat) : 0 ≤ smN l D thr o c k p := by
  cases k with
  | zero => exact Int.le_refl _
  | succ k => exact upS_nn _ _ _ _
theorem smN_anti (l : List Nt) (D : List Int32) (thr : Int) (o : Nat → Nat) (c k : Nat) {p q : Nat} (h : p ≤ q) : smN l D thr o c k q ≤ smN l D thr o c k p := by
  cases k with
  | zero => exact Int.le_refl _
  | succ k => exact upS_mono _ _ _ (by omega)
theorem smN_mx {l : List Nt} {D : List Int32} {thr : Int} {o : Nat → Nat} {c i p : Nat} (hi : i < c) (hp : p ≤ D.length) (hD : D.length ≤ 120) : smN l D thr o c (c - i) p = mxF (elN (lg l (o i)) D thr) (smN l D thr o c (c - (i + 1))) p (D.length - p) := by
  rw [mx_up hp hD (fun q => smN_nn _ _ _ _ _ _ _) (fun q h1 h2 => smN_anti _ _ _ _ _ _ h1), show c - i = (c - (i + 1)) + 1 by omega]
  simp only [smN]
  rw [show c - (c - (i + 1) + 1) = i by omega]
def stZ (v : Int) : Int := if v = -1005 then -1 else v
abbrev rm_X9_worth : Room := { frames := 0, cells := 0, slots := 0, locals := 0 }
set_option maxHeartbeats 4000000 in
set_option maxRecDepth 100000 in
theorem c_X9_worth (mo : Nat) (rg : Nat → Int) (sco smo : Nat → Int) (i q : Nat) (zi sv uv : Int) {w : PW} {n : Nat} (mc : w mo = some (mE mo rg)) (xc : w (mo + 9) = some (eI 1210 (fun ii => iI (sco ii)))) (uc : w (mo + 11) = some (eI 1331 (fun ii => iI (smo ii)))) (hzi : zi = (i : Int)) (hsv : sco (121 * i + q) = mSc sv) (huv : smo (121 * (i + 1) + q) = uv) (h1 : i < 10 ∧ q < 121) (hb2 : sv = -1005 ∨ (0 ≤ sv ∧ sv ≤ 108)) : CtR yX9_worth cX9_worth 4 (some .int) rm_X9_worth [.ref mo, .int (iI (zi)), .int (iI (((q : Nat) : Int)))] w n (.int (iI ((wv sv uv)))) := by
  refine Ctr.of rfl (Nat.le_of_ble_eq_true rfl) fun S hS => ?_
  have hb : S.1.1 = cX9_worth := by rw [hS]; rfl
  have ho : S.1.2.1 = RX9 := by rw [hS]; rfl
  have hnL : S.1.2.2.1 = 4 := by rw [hS]; rfl
  have hR0 : S.2.1 = rm_X9_worth := by rw [hS]; rfl
  show Wp S 0 [(0, .ref mo), (1, .int (iI (zi))), (2, .int (iI (((q : Nat) : Int))))] [] w n 0 0
  refine r_aload_n hb 1 dX9_worth_0 rfl 0 rfl ?_
  refine r_get hb ho 4 dX9_worth_1 rfl lk_X9_39 pf_X9_17 mc rfl ?_
  refine r_bipush 121 hb 6 dX9_worth_4 rfl rfl ?_
  refine r_iload_n hb 7 dX9_worth_6 rfl 1 rfl ?_
  refine r_imulZ hb 8 (121 * zi) dX9_worth_7 rfl (by omega) ?_
  refine r_iload_n hb 9 dX9_worth_8 rfl 2 rfl ?_
  refine r_iaddZ hb 10 (121 * zi + ((q : Nat) : Int)) dX9_worth_9 rfl (by omega) ?_
  refine r_ialdZ hb 11 dX9_worth_10 rfl xc (121 * i + q) (by omega) (⟨by omega, by omega⟩) ?_
  refine r_topv (.int (iI ((mSc sv)))) (congrArg (fun z => Value.int (iI z)) (by omega)) ?_
  by_cases hv : sv = -1005
  · have hmv : mSc sv = -1 := by unfold mSc; rw [if_pos hv]
    refine r_istore_n [(3, .int (iI ((mSc sv)))), (0, .ref mo), (1, .int (iI (zi))), (2, .int (iI (((q : Nat) : Int))))] hb 12 4 dX9_worth_11 rfl rfl hnL (by decide) rfl ?_
    refine r_iload_n hb 13 dX9_worth_12 rfl 0 rfl ?_
    refine r_if_ge hb 16 20 dX9_worth_13 rfl (by decide) (by omega) (fun c13 => ?_) (fun c13 => ?_)
    · exfalso; omega
    · refine r_iconst hb 17 dX9_worth_16 rfl ?_
      refine r_goto hb 35 dX9_worth_17 (by decide) ?_
      refine r_iret hS dX9_worth_35 rfl rfl (Nat.zero_le _) (Nat.zero_le _) ?_
      exact ⟨_, rfl, congrArg (fun z => Value.int (iI z)) (by unfold wv; rw [if_pos hv]), rfl, rfl⟩
  · have hmv : mSc sv = sv := by unfold mSc; rw [if_neg hv]
    refine r_istore_n [(3, .int (iI ((mSc sv)))), (0, .ref mo), (1, .int (iI (zi))), (2, .int (iI (((q : Nat) : Int))))] hb 12 4 dX9_worth_11 rfl rfl hnL (by decide) rfl ?_
    refine r_iload_n hb 13 dX9_worth_12 rfl 0 rfl ?_
    refine r_if_ge hb 16 20 dX9_worth_13 rfl (by decide) (by omega) (fun c13 => ?_) (fun c13 => ?_)
    · refine r_iload_n hb 21 dX9_worth_20 rfl 0 rfl ?_
      refine r_aload_n hb 22 dX9_worth_21 rfl 1 rfl ?_
      refine r_get hb ho 25 dX9_worth_22 rfl lk_X9_45 pf_X9_19 mc rfl ?_
      refine r_bipush 121 hb 27 dX9_worth_25 rfl rfl ?_
      refine r_iload_n hb 28 dX9_worth_27 rfl 2 rfl ?_
      refine r_iconst hb 29 dX9_worth_28 rfl ?_
      refine r_iaddZ hb 30 (zi + 1) dX9_worth_29 rfl (by omega) ?_
      refine r_imulZ hb 31 (121 * zi + 121) dX9_worth_30 rfl (by omega) ?_
      refine r_iload_n hb 32 dX9_worth_31 rfl 3 rfl ?_
      refine r_iaddZ hb 33 (121 * zi + ((q : Nat) : Int) + 121) dX9_worth_32 rfl (by omega) ?_
      refine r_ialdZ hb 34 dX9_worth_33 rfl uc (121 * (i + 1) + q) (by omega) (⟨by omega, by omega⟩) ?_
      refine r_topv (.int (iI (uv))) (congrArg (fun z => Value.int (iI z)) (by omega)) ?_
      refine r_iaddZ hb 35 ((mSc sv) + uv) dX9_worth_34 rfl (by omega) ?_
      refine r_iret hS dX9_worth_35 rfl rfl (Nat.zero_le _) (Nat.zero_le _) ?_
      exact ⟨_, rfl, congrArg (fun z => Value.int (iI z)) (by unfold wv; rw [if_neg hv, hmv]), rfl, rfl⟩
    · exfalso; omega

abbrev rm_X9_findSums : Room := { frames := 1, cells := 0, slots := 0, locals := 23 }
set_option maxHeartbeats 4000000 in
set_option maxRecDepth 100000 in
theorem c_X9_findSums (mo : Nat) (rg : Nat → Int) (g : Nat → Int32) (sco smo : Nat → Int) (D : List Int32) (l : List Nt) (nx : Nat) (thr : Int) (c : Nat) (o : Nat → Nat) {w : PW} {n : Nat} (mc : w mo = some (mE mo rg)) (vc : w (mo + 1) = some (eI 483 g)) (xc : w (mo + 9) = some (eI 1210 (fun ii => iI (sco ii)))) (uc : w (mo + 11) = some (eI 1331 (fun ii => iI (smo ii)))) (hD : vdp g D) (hsc : ∀ a p, p < D.length → a < c → sco (121 * a + p) = mSc (elN (lg l (o a)) D thr p)) (h16 : rg 16 = (c : Int)) (hc : c ≤ 10) (hoo : ∀ j, j < c → o j < l.length) (hok : pOk (D, l, nx)) (ht : 0 ≤ thr ∧ thr ≤ 108) : Ct0 yX9_findSums cX9_findSums 6 none rm_X9_findSums [.ref mo] w n (fun w1 n1 => n = n1 ∧ (∃ ui : Nat → Int, w1 (mo + 11) = some (eI 1331 (fun ii => iI (ui ii))) ∧ ∀ a p, a ≤ c → p ≤ D.length → ui (121 * a + p) = smN l D thr o c (c - a) p) ∧ off w w1 (mo + 11) (mo + 12)) := by
  have hDl := hD.2.2
  refine Ctr.of rfl (Nat.le_of_ble_eq_true rfl) fun S hS => ?_
  have hb : S.1.1 = cX9_findSums := by rw [hS]; rfl
  have ho : S.1.2.1 = RX9 := by rw [hS]; rfl
  have hnL : S.1.2.2.1 = 6 := by rw [hS]; rfl
  have hR0 : S.2.1 = rm_X9_findSums := by rw [hS]; rfl
  show Wp S 0 [(0, .ref mo)] [] w n 0 0
  refine r_iconst hb 1 dX9_findSums_0 rfl ?_
  refine r_istore_n [(1, .int (iI 0)), (0, .ref mo)] hb 2 6 dX9_findSums_1 rfl rfl hnL (by decide) rfl ?_
  have lp : ∀ (d : Nat) (p : Nat) (wi : PW) (ui : Nat → Int), 121 - p = d → (p ≤ D.length + 1) → (wi mo = some (eO 9 [.ref (mo + 1), .ref (mo + 2), .ref (mo + 3), .int (iI ((rg 3))), .ref (mo + 4), .ref (mo + 5), .int (iI ((rg 6))), .ref (mo + 6), .int (iI ((rg 8))), .ref (mo + 7), .int (iI ((rg 10))), .int (iI ((rg 11))), .int (iI ((rg 12))), .int (iI ((rg 13))), .int (iI ((rg 14))), .ref (mo + 8), .int (iI ((rg 16))), .ref (mo + 9), .ref (mo + 10), .ref (mo + 11)])) → (wi (mo + 1) = some (eI 483 g)) → (wi (mo + 9) = some (eI 1210 (fun ii => iI (sco ii)))) → (wi (mo + 11) = some (eI 1331 (fun ii => iI (ui ii)))) → (∀ q, q < p → ui (121 * c + q) = 0) → (off w wi (mo + 11) (mo + 12)) → Wp S 2 [(1, .int (iI (((p : Nat) : Int)))), (0, .ref mo)] [] wi n 0 0 := by
    intro d
    induction d using Nat.strongRecOn with
    | _ d ih_lp =>
      intro p wi ui hd_lp hp mc vc xc uc hu hO
      refine r_iload_n hb 3 dX9_findSums_2 rfl 0 rfl ?_
      refine r_aload_n hb 4 dX9_findSums_3 rfl 1 rfl ?_
      refine r_get hb ho 7 dX9_findSums_4 rfl lk_X9_7 pf_X9_0 mc rfl ?_
      refine r_iconst hb 8 dX9_findSums_7 rfl ?_
      refine r_iald hb 9 dX9_findSums_8 rfl vc 0 (by omega) (⟨by omega, by omega⟩) ?_
      refine r_topz ((((D).length : Nat) : Int)) (hD.1) ?_
      refine r_icmp_gt hb 12 33 dX9_findSums_9 rfl (by decide) (by omega) (by omega) (fun c9 => ?_) (fun c9 => ?_)
      · refine r_aload_n hb 34 dX9_findSums_33 rfl 1 rfl ?_
        refine r_get hb ho 37 dX9_findSums_34 rfl lk_X9_141 pf_X9_16 mc rfl ?_
        refine r_topv (.int (iI (((c : Nat) : Int)))) (congrArg (fun z => Value.int (iI z)) h16) ?_
        refine r_iconst hb 38 dX9_findSums_37 rfl ?_
        refine r_isubZ hb 39 (((c : Nat) : Int) - 1) dX9_findSums_38 rfl (by omega) ?_
        refine r_istore_n [(1, .int (iI (((c : Nat) : Int) - 1))), (0, .ref mo)] hb 40 6 dX9_findSums_39 rfl rfl hnL (by decide) rfl ?_
        have lb : ∀ (d : Nat) (i : Nat) (wi : PW) (ui : Nat → Int), i = d → (i ≤ c) → (wi mo = some (eO 9 [.ref (mo + 1), .ref (mo + 2), .ref (mo + 3), .int (iI ((rg 3))), .ref (mo + 4), .ref (mo + 5), .int (iI ((rg 6))), .ref (mo + 6), .int (iI ((rg 8))), .ref (mo + 7), .int (iI ((rg 10))), .int (iI ((rg 11))), .int (iI ((rg 12))), .int (iI ((rg 13))), .int (iI ((rg 14))), .ref (mo + 8), .int (iI ((rg 16))), .ref (mo + 9), .ref (mo + 10), .ref (mo + 11)])) → (wi (mo + 1) = some (eI 483 g)) → (wi (mo + 9) = some (eI 1210 (fun ii => iI (sco ii)))) → (wi (mo + 11) = some (eI 1331 (fun ii => iI (ui ii)))) → (∀ a p, i ≤ a → a ≤ c → p ≤ D.length → ui (121 * a + p) = smN l D thr o c (c - a) p) → (off w wi (mo + 11) (mo + 12)) → Wp S 40 [(1, .int (iI (((i : Nat) : Int) - 1))), (0, .ref mo)] [] wi n 0 0 := by
          intro d
          induction d using Nat.strongRecOn with
          | _ d ih_lb =>
            intro i wi ui hd_lb hi mc vc xc uc hu hO
            refine r_iload_n hb 41 dX9_findSums_40 rfl 0 rfl ?_
            refine r_if_lt hb 44 135 dX9_findSums_41 rfl (by decide) (by omega) (fun c41 => ?_) (fun c41 => ?_)
            · refine r_vret hS dX9_findSums_135 rfl (Nat.zero_le _) (Nat.zero_le _) ?_
              exact ⟨rfl, rfl, ⟨ui, uc, fun a p h1 h2 => hu a p (by omega) h1 h2⟩, hO⟩
            · skip
              obtain ⟨i0, rfl⟩ : ∃ i0 : Nat, i = i0 + 1 := ⟨i - 1, by omega⟩
              refine r_lv [(1, .int (iI (((i0 : Nat) : Int)))), (0, .ref mo)] [0, 1] (congrArg (fun zz : Int => ([(1, .int (iI zz)), (0, .ref mo)] : List (Nat × Value))) (show (((i0 + 1 : Nat)) : Int) - 1 = ((i0 : Nat) : Int) from by omega)) ?_
              refine r_aload_n hb 45 dX9_findSums_44 rfl 1 rfl ?_
              refine r_get hb ho 48 dX9_findSums_45 rfl lk_X9_7 pf_X9_0 mc rfl ?_
              refine r_iconst hb 49 dX9_findSums_48 rfl ?_
              refine r_iald hb 50 dX9_findSums_49 rfl vc 0 (by omega) (⟨by omega, by omega⟩) ?_
              refine r_topz ((((D).length : Nat) : Int)) (hD.1) ?_
              refine r_istore_n [(2, .int (iI ((((D).length : Nat) : Int)))), (1, .int (iI (((i0 : Nat) : Int)))), (0, .ref mo)] hb 51 6 dX9_findSums_50 rfl rfl hnL (by decide) rfl ?_
              have lc : ∀ (d : Nat) (j : Nat) (wi : PW) (ui : Nat → Int), j = d → (j ≤ D.length + 1) → (wi mo = some (eO 9 [.ref (mo + 1), .ref (mo + 2), .ref (mo + 3), .int (iI ((rg 3))), .ref (mo + 4), .ref (mo + 5), .int (iI ((rg 6))), .ref (mo + 6), .int (iI ((rg 8))), .ref (mo + 7), .int (iI ((rg 10))), .int (iI ((rg 11))), .int (iI ((rg 12))), .int (iI ((rg 13))), .int (iI ((rg 14))), .ref (mo + 8), .int (iI ((rg 16))), .ref (mo + 9), .ref (mo + 10), .ref (mo + 11)])) → (wi (mo + 1) = some (eI 483 g)) → (wi (mo + 9) = some (eI 1210 (fun ii => iI (sco ii)))) → (wi (mo + 11) = some (eI 1331 (fun ii => iI (ui ii)))) → (∀ a p, i0 + 1 ≤ a → a ≤ c → p ≤ D.length → ui (121 * a + p) = smN l D thr o c (c - a) p) → (∀ p, j ≤ p → p ≤ D.length → ui (121 * i0 + p) = smN l D thr o c (c - i0) p) → (off w wi (mo + 11) (mo + 12)) → Wp S 51 [(2, .int (iI (((j : Nat) : Int) - 1))), (1, .int (iI (((i0 : Nat) : Int)))), (0, .ref mo)] [] wi n 0 0 := by
                intro d
                induction d using Nat.strongRecOn with
                | _ d ih_lc =>
                  intro j wi ui hd_lc hj mc vc xc uc hu hv hO
                  refine r_iload_n hb 52 dX9_findSums_51 rfl 0 rfl ?_
                  refine r_if_lt hb 55 129 dX9_findSums_52 rfl (by decide) (by omega) (fun c52 => ?_) (fun c52 => ?_)
                  · refine r_iinc [(1, .int (iI (((i0 : Nat) : Int) - 1))), (2, .int (iI (((j : Nat) : Int) - 1))), (0, .ref mo)] hb 132 6 1 dX9_findSums_129 rfl rfl hnL (by decide) (((i0 : Nat) : Int) - 1) (by omega) rfl ?_
                    refine r_goto hb 40 dX9_findSums_132 (by decide) ?_
                    refine r_lv [(1, .int (iI (((i0 : Nat) : Int) - 1))), (0, .ref mo)] [0, 2] rfl ?_
                    exact ih_lb i0 (by omega) i0 _ ui rfl (by omega) mc vc xc uc (fun a p h1 h2 h3 => by
                      by_cases e : a = i0
                      · subst e; exact hv p (by omega) h3
                      · exact hu a p (by omega) h2 h3) hO
                  · skip
                    obtain ⟨j0, rfl⟩ : ∃ j0 : Nat, j = j0 + 1 := ⟨j - 1, by omega⟩
                    refine r_lv [(2, .int (iI (((j0 : Nat) : Int)))), (1, .int (iI (((i0 : Nat) : Int)))), (0, .ref mo)] [0, 1, 2] (congrArg (fun zz : Int => ([(2, .int (iI zz)), (1, .int (iI (((i0 : Nat) : Int)))), (0, .ref mo)] : List (Nat × Value))) (show (((j0 + 1 : Nat)) : Int) - 1 = ((j0 : Nat) : Int) from by omega)) ?_
                    refine r_aload_n hb 56 dX9_findSums_55 rfl 2 rfl ?_
                    refine r_get hb ho 59 dX9_findSums_56 rfl lk_X9_45 pf_X9_19 mc rfl ?_
                    refine r_bipush 121 hb 61 dX9_findSums_59 rfl rfl ?_
                    refine r_iload_n hb 62 dX9_findSums_61 rfl 1 rfl ?_
                    refine r_iconst hb 63 dX9_findSums_62 rfl ?_
                    refine r_iaddZ hb 64 (((i0 : Nat) : Int) + 1) dX9_findSums_63 rfl (by omega) ?_
                    refine r_imulZ hb 65 (121 * ((i0 : Nat) : Int) + 121) dX9_findSums_64 rfl (by omega) ?_
                    refine r_iload_n hb 66 dX9_findSums_65 rfl 0 rfl ?_
                    refine r_iaddZ hb 67 (121 * ((i0 : Nat) : Int) + ((j0 : Nat) : Int) + 121) dX9_findSums_66 rfl (by omega) ?_
                    refine r_ialdZ hb 68 dX9_findSums_67 rfl uc (121 * (i0 + 1) + j0) (by omega) (⟨by omega, by omega⟩) ?_
                    refine r_topv (.int (iI ((smN l D thr o c (c - (i0 + 1)) j0)))) (congrArg (fun z => Value.int (iI z)) (hu (i0 + 1) j0 (by omega) (by omega) (by omega))) ?_
                    refine r_istore_n [(3, .int (iI ((smN l D thr o c (c - (i0 + 1)) j0)))), (2, .int (iI (((j0 : Nat) : Int)))), (1, .int (iI (((i0 : Nat) : Int)))), (0, .ref mo)] hb 69 6 dX9_findSums_68 rfl rfl hnL (by decide) rfl ?_
                    refine r_iload_n hb 70 dX9_findSums_69 rfl 1 rfl ?_
                    refine r_istore [(4, .int (iI (((j0 : Nat) : Int)))), (3, .int (iI ((smN l D thr o c (c - (i0 + 1)) j0)))), (2, .int (iI (((j0 : Nat) : Int)))), (1, .int (iI (((i0 : Nat) : Int)))), (0, .ref mo)] hb 72 6 dX9_findSums_70 rfl hnL (by decide) rfl ?_
                    have ld : ∀ (d : Nat) (q : Nat), D.length - q = d → (j0 ≤ q ∧ q ≤ D.length) → Wp S 72 [(4, .int (iI (((q : Nat) : Int)))), (3, .int (iI ((mxF (elN (lg l (o i0)) D thr) (smN l D thr o c (c - (i0 + 1))) j0 (q - j0))))), (2, .int (iI (((j0 : Nat) : Int)))), (1, .int (iI (((i0 : Nat) : Int)))), (0, .ref mo)] [] wi n 0 0 := by
                      intro d
                      induction d using Nat.strongRecOn with
                      | _ d ih_ld =>
                        intro q hd_ld hq
                        refine r_iload hb 74 dX9_findSums_72 rfl 0 rfl ?_
                        refine r_aload_n hb 75 dX9_findSums_74 rfl 4 rfl ?_
                        refine r_get hb ho 78 dX9_findSums_75 rfl lk_X9_7 pf_X9_0 mc rfl ?_
                        refine r_iconst hb 79 dX9_findSums_78 rfl ?_
                        refine r_iald hb 80 dX9_findSums_79 rfl vc 0 (by omega) (⟨by omega, by omega⟩) ?_
                        refine r_topz ((((D).length : Nat) : Int)) (hD.1) ?_
                        refine r_icmp_ge hb 83 111 dX9_findSums_80 rfl (by decide) (by omega) (by omega) (fun c80 => ?_) (fun c80 => ?_)
                        · refine r_aload_n hb 112 dX9_findSums_111 rfl 4 rfl ?_
                          refine r_get hb ho 115 dX9_findSums_112 rfl lk_X9_45 pf_X9_19 mc rfl ?_
                          refine r_bipush 121 hb 117 dX9_findSums_115 rfl rfl ?_
                          refine r_iload_n hb 118 dX9_findSums_117 rfl 3 rfl ?_
                          refine r_imulZ hb 119 (121 * ((i0 : Nat) : Int)) dX9_findSums_118 rfl (by omega) ?_
                          refine r_iload_n hb 120 dX9_findSums_119 rfl 2 rfl ?_
                          refine r_iaddZ hb 121 (121 * ((i0 : Nat) : Int) + ((j0 : Nat) : Int)) dX9_findSums_120 rfl (by omega) ?_
                          refine r_iload_n hb 122 dX9_findSums_121 rfl 1 rfl ?_
                          refine r_iastZ hb 123 dX9_findSums_122 rfl uc (121 * i0 + j0) (by omega) (⟨by omega, by omega⟩) (fun w_122 hw_122 => ?_)
                          have ow_122 := pset_off hw_122
                          have xw_122 : w_122 (mo + 11) = some (eI 1331 (fun ii => iI ((updZ ui (121 * i0 + j0) ((mxF (elN (lg l (o i0)) D thr) (smN l D thr o c (c - (i0 + 1))) j0 (q - j0)))) ii))) := by rw [hw_122]; exact pset_eq _ _ _
                          have mc : w_122 mo = some (eO 9 [.ref (mo + 1), .ref (mo + 2), .ref (mo + 3), .int (iI ((rg 3))), .ref (mo + 4), .ref (mo + 5), .int (iI ((rg 6))), .ref (mo + 6), .int (iI ((rg 8))), .ref (mo + 7), .int (iI ((rg 10))), .int (iI ((rg 11))), .int (iI ((rg 12))), .int (iI ((rg 13))), .int (iI ((rg 14))), .ref (mo + 8), .int (iI ((rg 16))), .ref (mo + 9), .ref (mo + 10), .ref (mo + 11)]) := (ow_122 _ (by omega)).trans mc
                          have vc : w_122 (mo + 1) = some (eI 483 g) := (ow_122 _ (by omega)).trans vc
                          have xc : w_122 (mo + 9) = some (eI 1210 (fun ii => iI (sco ii))) := (ow_122 _ (by omega)).trans xc
                          refine r_iinc [(2, .int (iI (((j0 : Nat) : Int) - 1))), (4, .int (iI (((q : Nat) : Int)))), (3, .int (iI ((mxF (elN (lg l (o i0)) D thr) (smN l D thr o c (c - (i0 + 1))) j0 (q - j0))))), (1, .int (iI (((i0 : Nat) : Int)))), (0, .ref mo)] hb 126 6 2 dX9_findSums_123 rfl rfl hnL (by decide) (((j0 : Nat) : Int) - 1) (by omega) rfl ?_
                          refine r_goto hb 51 dX9_findSums_126 (by decide) ?_
                          have eq1 : q = D.length := by omega
                          refine r_lv [(2, .int (iI (((j0 : Nat) : Int) - 1))), (1, .int (iI (((i0 : Nat) : Int)))), (0, .ref mo)] [0, 3, 4] rfl ?_
                          refine ih_lc j0 (by omega) j0 _ _ rfl (by omega) mc vc xc xw_122 ?_ ?_ (hO.trans (ow_122.mono (by omega) (by omega)))
                          · intro a p h1 h2 h3; rw [updZ_n _ _ (by omega)]; exact hu a p h1 h2 h3
                          · intro p h1 h2
                            by_cases e : p = j0
                            · subst e; rw [updZ_s, smN_mx (by omega) (by omega) (by omega), eq1]
                            · rw [updZ_n _ _ (by omega)]; exact hv p (by omega) h2
                        · refine r_aload_n hb 84 dX9_findSums_83 rfl 4 rfl ?_
                          refine r_iload_n hb 85 dX9_findSums_84 rfl 3 rfl ?_
                          refine r_iload hb 87 dX9_findSums_85 rfl 0 rfl ?_
                          have hxi : nOk (lg l (o i0)) := (hok.2.2.2.1 (o i0) (hoo i0 (by omega))).1
                          have hel := elN_bd hxi D ht.1 (p := q) (by omega)
                          have hnn := smN_bd (l := l) (fun j hj => (hok.2.2.2.1 j hj).1) hDl ht.1 (o := o) (c := c) hoo (c - (i0 + 1)) (by omega)
                          have hn1 := hnn q
                          refine r_callVR (st := []) hb ho 90 dX9_findSums_87 rfl ck_X9_144 (c_X9_worth mo rg sco ui i0 q ((i0 : Nat) : Int) (elN (lg l (o i0)) D thr q) (smN l D thr o c (c - (i0 + 1)) q) mc xc uc rfl (hsc i0 q (by omega) (by omega)) (hu (i0 + 1) q (by omega) (by omega) (by omega)) (by omega) (by omega)) rfl rfl (mc) rfl rfl (by rw [hR0]; exact ⟨Nat.le_of_ble_eq_true rfl, Nat.le_of_ble_eq_true rfl⟩) (Nat.le_of_ble_eq_true rfl) ⟨rfl, rfl⟩ (by rw [hR0]; exact Nat.zero_le _) (by rw [hR0]; exact Nat.zero_le _) ?_
                          refine r_istore [(5, .int (iI ((wv (elN (lg l (o i0)) D thr q) (smN l D thr o c (c - (i0 + 1)) q))))), (4, .int (iI (((q : Nat) : Int)))), (3, .int (iI ((mxF (elN (lg l (o i0)) D thr) (smN l D thr o c (c - (i0 + 1))) j0 (q - j0))))), (2, .int (iI (((j0 : Nat) : Int)))), (1, .int (iI (((i0 : Nat) : Int)))), (0, .ref mo)] hb 92 6 dX9_findSums_90 rfl hnL (by decide) rfl ?_
                          refine r_iload hb 94 dX9_findSums_92 rfl 0 rfl ?_
                          refine r_iload_n hb 95 dX9_findSums_94 rfl 2 rfl ?_
                          have hw1 : -1 ≤ wv (elN (lg l (o i0)) D thr q) (smN l D thr o c (c - (i0 + 1)) q) ∧ wv (elN (lg l (o i0)) D thr q) (smN l D thr o c (c - (i0 + 1)) q) ≤ 2000 := by unfold wv; split <;> omega
                          have hw2 := mxF_b (elN (lg l (o i0)) D thr) (smN l D thr o c (c - (i0 + 1))) j0 (q - j0)
                          have hw3 := hnn j0
                          have hw4 : mxF (elN (lg l (o i0)) D thr) (smN l D thr o c (c - (i0 + 1))) j0 (q - j0) ≤ 2000 := mxF_ub _ _ _ _ (by omega) _ (fun u hu2 => by
                            have hn2 := hnn (j0 + u)
                            have hel2 := elN_bd hxi D ht.1 (p := j0 + u) (by omega)
                            unfold wv; split <;> omega)
                          refine r_icmp_le hb 98 103 dX9_findSums_95 rfl (by decide) (by omega) (by omega) (fun c95 => ?_) (fun c95 => ?_)
                          · refine r_iload_n hb 104 dX9_findSums_103 rfl 2 rfl ?_
                            refine r_istore_n [(3, .int (iI ((mxF (elN (lg l (o i0)) D thr) (smN l D thr o c (c - (i0 + 1))) j0 (q - j0))))), (5, .int (iI ((wv (elN (lg l (o i0)) D thr q) (smN l D thr o c (c - (i0 + 1)) q))))), (4, .int (iI (((q : Nat) : Int)))), (2, .int (iI (((j0 : Nat) : Int)))), (1, .int (iI (((i0 : Nat) : Int)))), (0, .ref mo)] hb 105 6 dX9_findSums_104 rfl rfl hnL (by decide) rfl ?_
                            refine r_iinc [(4, .int (iI (((q : Nat) : Int) + 1))), (3, .int (iI ((mxF (elN (lg l (o i0)) D thr) (smN l D thr o c (c - (i0 + 1))) j0 (q - j0))))), (5, .int (iI ((wv (elN (lg l (o i0)) D thr q) (smN l D thr o c (c - (i0 + 1)) q))))), (2, .int (iI (((j0 : Nat) : Int)))), (1, .int (iI (((i0 : Nat) : Int)))), (0, .ref mo)] hb 108 6 2 dX9_findSums_105 rfl rfl hnL (by decide) (((q : Nat) : Int) + 1) (by omega) rfl ?_
                            refine r_goto hb 72 dX9_findSums_108 (by decide) ?_
                            have e : mxF (elN (lg l (o i0)) D thr) (smN l D thr o c (c - (i0 + 1))) j0 (q + 1 - j0) = ((mxF (elN (lg l (o i0)) D thr) (smN l D thr o c (c - (i0 + 1))) j0 (q - j0))) := by
                              rw [show q + 1 - j0 = (q - j0) + 1 by omega]; simp only [mxF]; rw [show j0 + (q - j0) = q by omega]; omega
                            refine r_lv [(4, .int (iI (((q + 1 : Nat) : Int)))), (3, .int (iI ((mxF (elN (lg l (o i0)) D thr) (smN l D thr o c (c - (i0 + 1))) j0 (q + 1 - j0))))), (2, .int (iI (((j0 : Nat) : Int)))), (1, .int (iI (((i0 : Nat) : Int)))), (0, .ref mo)] [0, 1, 3, 4, 5] (by rw [e]; rfl) ?_
                            exact ih_ld (D.length - (q + 1)) (by omega) (q + 1) rfl (by omega)
                          · refine r_iload hb 100 dX9_findSums_98 rfl 0 rfl ?_
                            refine r_goto hb 104 dX9_findSums_100 (by decide) ?_
                            refine r_istore_n [(3, .int (iI ((wv (elN (lg l (o i0)) D thr q) (smN l D thr o c (c - (i0 + 1)) q))))), (5, .int (iI ((wv (elN (lg l (o i0)) D thr q) (smN l D thr o c (c - (i0 + 1)) q))))), (4, .int (iI (((q : Nat) : Int)))), (2, .int (iI (((j0 : Nat) : Int)))), (1, .int (iI (((i0 : Nat) : Int)))), (0, .ref mo)] hb 105 6 dX9_findSums_104 rfl rfl hnL (by decide) rfl ?_
                            refine r_iinc [(4, .int (iI (((q : Nat) : Int) + 1))), (3, .int (iI ((wv (elN (lg l (o i0)) D thr q) (smN l D thr o c (c - (i0 + 1)) q))))), (5, .int (iI ((wv (elN (lg l (o i0)) D thr q) (smN l D thr o c (c - (i0 + 1)) q))))), (2, .int (iI (((j0 : Nat) : Int)))), (1, .int (iI (((i0 : Nat) : Int)))), (0, .ref mo)] hb 108 6 2 dX9_findSums_105 rfl rfl hnL (by decide) (((q : Nat) : Int) + 1) (by omega) rfl ?_
                            refine r_goto hb 72 dX9_findSums_108 (by decide) ?_
                            have e : mxF (elN (lg l (o i0)) D thr) (smN l D thr o c (c - (i0 + 1))) j0 (q + 1 - j0) = ((wv (elN (lg l (o i0)) D thr q) (smN l D thr o c (c - (i0 + 1)) q))) := by
                              rw [show q + 1 - j0 = (q - j0) + 1 by omega]; simp only [mxF]; rw [show j0 + (q - j0) = q by omega]; omega
                            refine r_lv [(4, .int (iI (((q + 1 : Nat) : Int)))), (3, .int (iI ((mxF (elN (lg l (o i0)) D thr) (smN l D thr o c (c - (i0 + 1))) j0 (q + 1 - j0))))), (2, .int (iI (((j0 : Nat) : Int)))), (1, .int (iI (((i0 : Nat) : Int)))), (0, .ref mo)] [0, 1, 3, 4, 5] (by rw [e]; rfl) ?_
                            exact ih_ld (D.length - (q + 1)) (by omega) (q + 1) rfl (by omega)
                    refine r_lv [(4, .int (iI (((j0 : Nat) : Int)))), (3, .int (iI ((mxF (elN (lg l (o i0)) D thr) (smN l D thr o c (c - (i0 + 1))) j0 (j0 - j0))))), (2, .int (iI (((j0 : Nat) : Int)))), (1, .int (iI (((i0 : Nat) : Int)))), (0, .ref mo)] [0, 1, 2, 3, 4] (by rw [Nat.sub_self]; rfl) ?_
                    exact ld _ j0 rfl (by omega)
              refine r_lv [(2, .int (iI ((((D.length + 1) : Nat) : Int) - 1))), (1, .int (iI (((i0 : Nat) : Int)))), (0, .ref mo)] [0, 1, 2] (congrArg (fun zz : Int => ([(2, .int (iI zz)), (1, .int (iI (((i0 : Nat) : Int)))), (0, .ref mo)] : List (Nat × Value))) (show ((D.length : Nat) : Int) = (((D.length + 1 : Nat)) : Int) - 1 from by omega)) ?_
              exact lc _ (D.length + 1) _ ui rfl (Nat.le_refl _) mc vc xc uc hu (fun p h1 h2 => absurd h1 (by omega)) hO
        refine r_lv [(1, .int (iI (((c : Nat) : Int) - 1))), (0, .ref mo)] [0, 1] rfl ?_
        exact lb _ c _ ui rfl (Nat.le_refl _) mc vc xc uc (fun a p h1 h2 h3 => by rw [show a = c by omega, Nat.sub_self]; exact hu p (by omega)) hO
      · refine r_aload_n hb 13 dX9_findSums_12 rfl 1 rfl ?_
        refine r_get hb ho 16 dX9_findSums_13 rfl lk_X9_45 pf_X9_19 mc rfl ?_
        refine r_bipush 121 hb 18 dX9_findSums_16 rfl rfl ?_
        refine r_aload_n hb 19 dX9_findSums_18 rfl 1 rfl ?_
        refine r_get hb ho 22 dX9_findSums_19 rfl lk_X9_141 pf_X9_16 mc rfl ?_
        refine r_topv (.int (iI (((c : Nat) : Int)))) (congrArg (fun z => Value.int (iI z)) h16) ?_
        refine r_imulZ hb 23 (121 * ((c : Nat) : Int)) dX9_findSums_22 rfl (by omega) ?_
        refine r_iload_n hb 24 dX9_findSums_23 rfl 0 rfl ?_
        refine r_iaddZ hb 25 (121 * ((c : Nat) : Int) + ((p : Nat) : Int)) dX9_findSums_24 rfl (by omega) ?_
        refine r_iconst hb 26 dX9_findSums_25 rfl ?_
        refine r_iastZ hb 27 dX9_findSums_26 rfl uc (121 * c + p) (by omega) (⟨by omega, by omega⟩) (fun w_26 hw_26 => ?_)
        have ow_26 := pset_off hw_26
        have xw_26 : w_26 (mo + 11) = some (eI 1331 (fun ii => iI ((updZ ui (121 * c + p) 0) ii))) := by rw [hw_26]; exact pset_eq _ _ _
        have mc : w_26 mo = some (eO 9 [.ref (mo + 1), .ref (mo + 2), .ref (mo + 3), .int (iI ((rg 3))), .ref (mo + 4), .ref (mo + 5), .int (iI ((rg 6))), .ref (mo + 6), .int (iI ((rg 8))), .ref (mo + 7), .int (iI ((rg 10))), .int (iI ((rg 11))), .int (iI ((rg 12))), .int (iI ((rg 13))), .int (iI ((rg 14))), .ref (mo + 8), .int (iI ((rg 16))), .ref (mo + 9), .ref (mo + 10), .ref (mo + 11)]) := (ow_26 _ (by omega)).trans mc
        have vc : w_26 (mo + 1) = some (eI 483 g) := (ow_26 _ (by omega)).trans vc
        have xc : w_26 (mo + 9) = some (eI 1210 (fun ii => iI (sco ii))) := (ow_26 _ (by omega)).trans xc
        refine r_iinc [(1, .int (iI (((p : Nat) : Int) + 1))), (0, .ref mo)] hb 30 6 0 dX9_findSums_27 rfl rfl hnL (by decide) (((p : Nat) : Int) + 1) (by omega) rfl ?_
        refine r_goto hb 2 dX9_findSums_30 (by decide) ?_
        refine r_lv [(1, .int (iI (((p + 1 : Nat) : Int)))), (0, .ref mo)] [0, 1] rfl ?_
        refine ih_lp (121 - (p + 1)) (by omega) (p + 1) _ _ rfl (by omega) mc vc xc xw_26 ?_ (hO.trans (ow_26.mono (by omega) (by omega)))
        intro q hq
        by_cases e : q = p
        · subst e; exact updZ_s _ _ _
        · rw [updZ_n _ _ (by omega)]; exact hu q (by omega)
  refine r_lv [(1, .int (iI (((0 : Nat) : Int)))), (0, .ref mo)] [0, 1] rfl ?_
  exact lp _ 0 _ smo rfl (Nat.zero_le _) mc vc xc uc (fun q hq => absurd hq (Nat.not_lt_zero _)) (off.rfl' _ _ _)
