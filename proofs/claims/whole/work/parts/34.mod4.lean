theorem vbf_app {bg : Nat → Int32} {B : List Int32} {x : Int32} (h : vbf bg B) (hl : B.length < 40) : vbf (upd bg B.length x) (B ++ [x]) := by
  refine ⟨by simp; omega, fun i hi => ?_⟩
  rw [List.length_append] at hi
  by_cases e : i = B.length
  · subst e; rw [pk_us, getD_app2 _ _ (Nat.le_refl _)]; simp
  · have h2 : i < B.length := by simp at hi; omega
    rw [pk_un e, getD_app1 _ _ h2]; exact h.2 i h2
theorem vnx_step {g g1 : Nat → Int32} {xs ys : Nat → Nt} {c k : Nat} (h : vnx g (fun m => if m < k then ys m else xs m) c) (hy : vnt g1 (123 + 36 * k) (ys k)) (e : ∀ q, q < 123 + 36 * k ∨ 123 + 36 * k + 36 ≤ q → g1 q = g q) : vnx g1 (fun m => if m < k + 1 then ys m else xs m) c := by
  intro m hm
  show vnt g1 _ (if m < k + 1 then ys m else xs m)
  by_cases h1 : m = k
  · subst h1; rw [if_pos (by omega)]; exact hy
  · have h2 := h m hm
    have h3 : (if m < k + 1 then ys m else xs m) = (if m < k then ys m else xs m) := by
      by_cases h4 : m < k
      · rw [if_pos h4, if_pos (by omega)]
      · rw [if_neg h4, if_neg (by omega)]
    rw [h3]; exact h2.congr (fun q h5 h6 => e q (by omega))
theorem vnx_at {g : Nat → Int32} {xs ys : Nat → Nt} {c k : Nat} (h : vnx g (fun m => if m < k then ys m else xs m) c) (hk : k < c) : vnt g (123 + 36 * k) (xs k) := by
  have h2 := h k hk
  rw [show (fun m => if m < k then ys m else xs m) k = xs k from if_neg (Nat.lt_irrefl _)] at h2
  exact h2
theorem vnx_map {g : Nat → Int32} {l : List Nt} {f : Nt → Nt} (h : vnx g (fun m => if m < l.length then f (lg l m) else lg l m) l.length) : vnx g (lg (l.map f)) (l.map f).length := by
  intro m hm
  rw [List.length_map] at hm
  have h2 := h m hm
  rw [show (fun m => if m < l.length then f (lg l m) else lg l m) m = f (lg l m) from if_pos hm] at h2
  rw [lg_map f l hm]; exact h2
theorem vnx_none {g : Nat → Int32} {xs ys : Nat → Nt} {c : Nat} (h : vnx g xs c) : vnx g (fun m => if m < 0 then ys m else xs m) c := fun m hm => h m hm
abbrev rm_X9_type : Room := { frames := 1, cells := 0, slots := 0, locals := 22 }
set_option maxHeartbeats 4000000 in
set_option maxRecDepth 100000 in
theorem c_X9_type (mo : Nat) (B D : List Int32) (l : List Nt) (nx : Nat) (hs : List Pg) (s0 s1 : Option (Pg × Int)) (thr : Int) (z : Int) {w : PW} {n : Nat} (hM : moE w mo B D l nx hs s0 s1 thr) (hzb : -2147483648 ≤ z ∧ z < 2147483648) : Ct1 yX9_type cX9_type 2 (some .int) rm_X9_type [.ref mo, .int (iI (z))] w n (fun v w1 n1 => v = .int (oType B D l nx hs s0 s1 thr z).1 ∧ n = n1 ∧ mo_ w1 mo (oType B D l nx hs s0 s1 thr z).2 ∧ off w w1 mo (mo + 12)) := by
  obtain ⟨rg, g, sp, pa, kp, ik, bg, ln, od, sco, leo, smo, mc, vc, sc, pc, kc, ic, bc, lc, oc, xc, ec, uc, hV, h3, hH, h6, h8, hB, hS0, hS1⟩ := id hM
  have hD : vdp g D := hV.1
  have hP : vnp g l nx := hV.2
  have hDl := hD.2.2
  have hPl := hP.2.2.1
  have hnx := hP.2.2.2.1
  have hBl := hB.1
  have hHl := hH.1
  refine Ctr.of rfl (Nat.le_of_ble_eq_true rfl) fun S hS => ?_
  have hb : S.1.1 = cX9_type := by rw [hS]; rfl
  have ho : S.1.2.1 = RX9 := by rw [hS]; rfl
  have hnL : S.1.2.2.1 = 2 := by rw [hS]; rfl
  have hR0 : S.2.1 = rm_X9_type := by rw [hS]; rfl
  show Wp S 0 [(0, .ref mo), (1, .int (iI (z)))] [] w n 0 0
  refine r_iload_n hb 1 dX9_type_0 rfl 1 rfl ?_
  refine r_bipush 32 hb 3 dX9_type_1 rfl rfl ?_
  refine r_bipush 126 hb 5 dX9_type_3 rfl rfl ?_
  refine r_callSR (st := []) hb ho 8 dX9_type_5 rfl ck_X9_52 (c_X9_in (z) 32 126 (by omega)) rfl rfl (by rw [hR0]; exact ⟨Nat.le_of_ble_eq_true rfl, Nat.le_of_ble_eq_true rfl⟩) (Nat.le_of_ble_eq_true rfl) ⟨rfl, rfl⟩ (by rw [hR0]; exact Nat.zero_le _) (by rw [hR0]; exact Nat.zero_le _) ?_
  refine r_ifb_ne hb 11 15 dX9_type_8 rfl (by decide) (fun c8 => ?_) (fun c8 => ?_)
  · have c8 := of_decide_eq_true c8
    refine r_aload_n hb 16 dX9_type_15 rfl 0 rfl ?_
    refine r_get hb ho 19 dX9_type_16 rfl lk_X9_63 pf_X9_8 mc rfl ?_
    refine r_bipush 40 hb 21 dX9_type_19 rfl rfl ?_
    refine r_icmp_ne hb 24 28 dX9_type_21 rfl (by decide) (by omega) (by omega) (fun c21 => ?_) (fun c21 => ?_)
    · refine r_aload_n hb 29 dX9_type_28 rfl 0 rfl ?_
      refine r_get hb ho 32 dX9_type_29 rfl lk_X9_30 pf_X9_7 mc rfl ?_
      refine r_aload_n hb 33 dX9_type_32 rfl 0 rfl ?_
      refine r_get hb ho 36 dX9_type_33 rfl lk_X9_63 pf_X9_8 mc rfl ?_
      refine r_iload_n hb 37 dX9_type_36 rfl 1 rfl ?_
      refine r_iast hb 38 dX9_type_37 rfl bc B.length (by omega) (⟨by omega, by omega⟩) (fun w_37 hw_37 => ?_)
      have ow_37 := pset_off hw_37
      have xw_37 : w_37 (mo + 6) = some (eI 40 (upd bg B.length ((iI (z))))) := by rw [hw_37]; exact pset_eq _ _ _
      have mc : w_37 mo = some (eO 9 [.ref (mo + 1), .ref (mo + 2), .ref (mo + 3), .int (iI ((rg 3))), .ref (mo + 4), .ref (mo + 5), .int (iI ((rg 6))), .ref (mo + 6), .int (iI ((rg 8))), .ref (mo + 7), .int (iI ((rg 10))), .int (iI ((rg 11))), .int (iI ((rg 12))), .int (iI ((rg 13))), .int (iI ((rg 14))), .ref (mo + 8), .int (iI ((rg 16))), .ref (mo + 9), .ref (mo + 10), .ref (mo + 11)]) := (ow_37 _ (by omega)).trans mc
      have vc : w_37 (mo + 1) = some (eI 483 g) := (ow_37 _ (by omega)).trans vc
      have sc : w_37 (mo + 2) = some (eI 483 sp) := (ow_37 _ (by omega)).trans sc
      have pc : w_37 (mo + 3) = some (eI 2898 pa) := (ow_37 _ (by omega)).trans pc
      have kc : w_37 (mo + 4) = some (eI 968 kp) := (ow_37 _ (by omega)).trans kc
      have ic : w_37 (mo + 5) = some (eZ 2 ik) := (ow_37 _ (by omega)).trans ic
      have lc : w_37 (mo + 7) = some (eI 17 (fun ii => iI ((ln ii : Nat) : Int))) := (ow_37 _ (by omega)).trans lc
      have oc : w_37 (mo + 8) = some (eI 10 (fun ii => iI ((od ii : Nat) : Int))) := (ow_37 _ (by omega)).trans oc
      have xc : w_37 (mo + 9) = some (eI 1210 (fun ii => iI (sco ii))) := (ow_37 _ (by omega)).trans xc
      have ec : w_37 (mo + 10) = some (eI 1210 (fun ii => iI (leo ii))) := (ow_37 _ (by omega)).trans ec
      have uc : w_37 (mo + 11) = some (eI 1331 (fun ii => iI (smo ii))) := (ow_37 _ (by omega)).trans uc
      refine r_aload_n hb 39 dX9_type_38 rfl 0 rfl ?_
      refine r_dup hb 40 dX9_type_39 rfl rfl ?_
      refine r_get hb ho 43 dX9_type_40 rfl lk_X9_63 pf_X9_8 mc rfl ?_
      refine r_iconst hb 44 dX9_type_43 rfl ?_
      refine r_iaddZ hb 45 ((rg 8) + 1) dX9_type_44 rfl (by omega) ?_
      refine r_put hb ho 48 dX9_type_45 rfl lk_X9_63 pf_X9_8 mc (Nat.le_of_ble_eq_true rfl) ⟨rfl, rfl⟩ (fun w_45 hw_45 => ?_)
      have ow_45 := pset_off hw_45
      have xw_45 : w_45 mo = some (eO 9 [.ref (mo + 1), .ref (mo + 2), .ref (mo + 3), .int (iI ((rg 3))), .ref (mo + 4), .ref (mo + 5), .int (iI ((rg 6))), .ref (mo + 6), .int (iI ((rg 8) + 1)), .ref (mo + 7), .int (iI ((rg 10))), .int (iI ((rg 11))), .int (iI ((rg 12))), .int (iI ((rg 13))), .int (iI ((rg 14))), .ref (mo + 8), .int (iI ((rg 16))), .ref (mo + 9), .ref (mo + 10), .ref (mo + 11)]) := by rw [hw_45]; exact pset_eq _ _ _
      have xw_37 : w_45 (mo + 6) = some (eI 40 (upd bg B.length ((iI (z))))) := (ow_45 _ (by omega)).trans xw_37
      have vc : w_45 (mo + 1) = some (eI 483 g) := (ow_45 _ (by omega)).trans vc
      have sc : w_45 (mo + 2) = some (eI 483 sp) := (ow_45 _ (by omega)).trans sc
      have pc : w_45 (mo + 3) = some (eI 2898 pa) := (ow_45 _ (by omega)).trans pc
      have kc : w_45 (mo + 4) = some (eI 968 kp) := (ow_45 _ (by omega)).trans kc
      have ic : w_45 (mo + 5) = some (eZ 2 ik) := (ow_45 _ (by omega)).trans ic
      have lc : w_45 (mo + 7) = some (eI 17 (fun ii => iI ((ln ii : Nat) : Int))) := (ow_45 _ (by omega)).trans lc
      have oc : w_45 (mo + 8) = some (eI 10 (fun ii => iI ((od ii : Nat) : Int))) := (ow_45 _ (by omega)).trans oc
      have xc : w_45 (mo + 9) = some (eI 1210 (fun ii => iI (sco ii))) := (ow_45 _ (by omega)).trans xc
      have ec : w_45 (mo + 10) = some (eI 1210 (fun ii => iI (leo ii))) := (ow_45 _ (by omega)).trans ec
      have uc : w_45 (mo + 11) = some (eI 1331 (fun ii => iI (smo ii))) := (ow_45 _ (by omega)).trans uc
      refine r_aload_n hb 49 dX9_type_48 rfl 0 rfl ?_
      refine r_get hb ho 52 dX9_type_49 rfl lk_X9_63 pf_X9_8 xw_45 rfl ?_
      refine r_topv (.int (iI ((((B.length + 1 : Nat) : Nat) : Int)))) (congrArg (fun z => Value.int (iI z)) (by omega)) ?_
      refine r_iret hS dX9_type_52 rfl rfl (Nat.zero_le _) (Nat.zero_le _) ?_
      have e : oType B D l nx hs s0 s1 thr z = (iI ((B.length + 1 : Nat) : Int), (B ++ [iI z], (D, l, nx), hs, s0, s1, thr)) := by unfold oType; rw [if_neg (by omega), if_neg (by omega)]
      rw [e]
      exact ⟨_, rfl, rfl, rfl, ⟨(updZ rg 8 (rg 8 + 1)), g, sp, pa, kp, ik, _, ln, od, sco, leo, smo, xw_45, vc, sc, pc, kc, ic, xw_37, lc, oc, xc, ec, uc, hV, h3, hH, h6, (by show rg 8 + 1 = (((B ++ [iI z]).length : Nat) : Int); rw [List.length_append, h8]; rfl), vbf_app hB (by omega), hS0, hS1⟩, ((ow_37.mono (by omega) (by omega)).trans (ow_45.mono (by omega) (by omega)))⟩
    · refine r_sipush (-1004) hb 27 dX9_type_24 rfl rfl ?_
      refine r_iret hS dX9_type_27 rfl rfl (Nat.zero_le _) (Nat.zero_le _) ?_
      have e : oType B D l nx hs s0 s1 thr z = (iI (-1004), (B, (D, l, nx), hs, s0, s1, thr)) := by unfold oType; rw [if_neg (by omega), if_pos (by omega)]
      rw [e]
      exact ⟨_, rfl, rfl, rfl, hM, off.rfl' _ _ _⟩
  · have c8 := of_decide_eq_false c8
    refine r_sipush (-1002) hb 14 dX9_type_11 rfl rfl ?_
    refine r_iret hS dX9_type_14 rfl rfl (Nat.zero_le _) (Nat.zero_le _) ?_
    have e : oType B D l nx hs s0 s1 thr z = (iI (-1002), (B, (D, l, nx), hs, s0, s1, thr)) := by unfold oType; rw [if_pos (by omega)]
    rw [e]
    exact ⟨_, rfl, rfl, rfl, hM, off.rfl' _ _ _⟩

abbrev rm_X9_clearBuffer : Room := { frames := 0, cells := 0, slots := 0, locals := 0 }
set_option maxHeartbeats 4000000 in
set_option maxRecDepth 100000 in
theorem c_X9_clearBuffer (mo : Nat) (B D : List Int32) (l : List Nt) (nx : Nat) (hs : List Pg) (s0 s1 : Option (Pg × Int)) (thr : Int)  {w : PW} {n : Nat} (hM : moE w mo B D l nx hs s0 s1 thr) : Ct1 yX9_clearBuffer cX9_clearBuffer 2 (some .int) rm_X9_clearBuffer [.ref mo] w n (fun v w1 n1 => v = .int (oClear B D l nx hs s0 s1 thr ).1 ∧ n = n1 ∧ mo_ w1 mo (oClear B D l nx hs s0 s1 thr ).2 ∧ off w w1 mo (mo + 12)) := by
  obtain ⟨rg, g, sp, pa, kp, ik, bg, ln, od, sco, leo, smo, mc, vc, sc, pc, kc, ic, bc, lc, oc, xc, ec, uc, hV, h3, hH, h6, h8, hB, hS0, hS1⟩ := id hM
  have hD : vdp g D := hV.1
  have hP : vnp g l nx := hV.2
  have hDl := hD.2.2
  have hPl := hP.2.2.1
  have hnx := hP.2.2.2.1
  have hBl := hB.1
  have hHl := hH.1
  refine Ctr.of rfl (Nat.le_of_ble_eq_true rfl) fun S hS => ?_
  have hb : S.1.1 = cX9_clearBuffer := by rw [hS]; rfl
  have ho : S.1.2.1 = RX9 := by rw [hS]; rfl
  have hnL : S.1.2.2.1 = 2 := by rw [hS]; rfl
  have hR0 : S.2.1 = rm_X9_clearBuffer := by rw [hS]; rfl
  show Wp S 0 [(0, .ref mo)] [] w n 0 0
  refine r_aload_n hb 1 dX9_clearBuffer_0 rfl 0 rfl ?_
  refine r_get hb ho 4 dX9_clearBuffer_1 rfl lk_X9_63 pf_X9_8 mc rfl ?_
  refine r_topv (.int (iI (((B.length : Nat) : Int)))) (congrArg (fun z => Value.int (iI z)) (by omega)) ?_
  refine r_istore_n [(1, .int (iI (((B.length : Nat) : Int)))), (0, .ref mo)] hb 5 2 dX9_clearBuffer_4 rfl rfl hnL (by decide) rfl ?_
  refine r_aload_n hb 6 dX9_clearBuffer_5 rfl 1 rfl ?_
  refine r_iconst hb 7 dX9_clearBuffer_6 rfl ?_
  refine r_put hb ho 10 dX9_clearBuffer_7 rfl lk_X9_63 pf_X9_8 mc (Nat.le_of_ble_eq_true rfl) ⟨rfl, rfl⟩ (fun w_7 hw_7 => ?_)
  have ow_7 := pset_off hw_7
  have xw_7 : w_7 mo = some (eO 9 [.ref (mo + 1), .ref (mo + 2), .ref (mo + 3), .int (iI ((rg 3))), .ref (mo + 4), .ref (mo + 5), .int (iI ((rg 6))), .ref (mo + 6), .int (iI 0), .ref (mo + 7), .int (iI ((rg 10))), .int (iI ((rg 11))), .int (iI ((rg 12))), .int (iI ((rg 13))), .int (iI ((rg 14))), .ref (mo + 8), .int (iI ((rg 16))), .ref (mo + 9), .ref (mo + 10), .ref (mo + 11)]) := by rw [hw_7]; exact pset_eq _ _ _
  have vc : w_7 (mo + 1) = some (eI 483 g) := (ow_7 _ (by omega)).trans vc
  have sc : w_7 (mo + 2) = some (eI 483 sp) := (ow_7 _ (by omega)).trans sc
  have pc : w_7 (mo + 3) = some (eI 2898 pa) := (ow_7 _ (by omega)).trans pc
  have kc : w_7 (mo + 4) = some (eI 968 kp) := (ow_7 _ (by omega)).trans kc
  have ic : w_7 (mo + 5) = some (eZ 2 ik) := (ow_7 _ (by omega)).trans ic
  have bc : w_7 (mo + 6) = some (eI 40 bg) := (ow_7 _ (by omega)).trans bc
  have lc : w_7 (mo + 7) = some (eI 17 (fun ii => iI ((ln ii : Nat) : Int))) := (ow_7 _ (by omega)).trans lc
  have oc : w_7 (mo + 8) = some (eI 10 (fun ii => iI ((od ii : Nat) : Int))) := (ow_7 _ (by omega)).trans oc
  have xc : w_7 (mo + 9) = some (eI 1210 (fun ii => iI (sco ii))) := (ow_7 _ (by omega)).trans xc
  have ec : w_7 (mo + 10) = some (eI 1210 (fun ii => iI (leo ii))) := (ow_7 _ (by omega)).trans ec
  have uc : w_7 (mo + 11) = some (eI 1331 (fun ii => iI (smo ii))) := (ow_7 _ (by omega)).trans uc
  refine r_iload_n hb 11 dX9_clearBuffer_10 rfl 0 rfl ?_
  refine r_iret hS dX9_clearBuffer_11 rfl rfl (Nat.zero_le _) (Nat.zero_le _) ?_
  have e : oClear B D l nx hs s0 s1 thr  = (iI ((B.length : Nat) : Int), ([], (D, l, nx), hs, s0, s1, thr)) := by unfold oClear; rfl
  rw [e]
  exact ⟨_, rfl, rfl, rfl, ⟨(updZ rg 8 0), g, sp, pa, kp, ik, bg, ln, od, sco, leo, smo, xw_7, vc, sc, pc, kc, ic, bc, lc, oc, xc, ec, uc, hV, h3, hH, h6, rfl, ⟨Nat.zero_le _, fun i hi => absurd hi (Nat.not_lt_zero _)⟩, hS0, hS1⟩, (ow_7.mono (by omega) (by omega))⟩

abbrev rm_X9_load : Room := { frames := 2, cells := 0, slots := 0, locals := 46 }
set_option maxHeartbeats 4000000 in
set_option maxRecDepth 100000 in
theorem c_X9_load (mo : Nat) (B D : List Int32) (l : List Nt) (nx : Nat) (hs : List Pg) (s0 s1 : Option (Pg × Int)) (thr : Int)  {w : PW} {n : Nat} (hM : moE w mo B D l nx hs s0 s1 thr) (hok : pOk (D, l, nx)) : Ct1 yX9_load cX9_load 3 (some .int) rm_X9_load [.ref mo] w n (fun v w1 n1 => v = .int (oLoad B D l nx hs s0 s1 thr ).1 ∧ n = n1 ∧ mo_ w1 mo (oLoad B D l nx hs s0 s1 thr ).2 ∧ off w w1 mo (mo + 12)) := by
  obtain ⟨rg, g, sp, pa, kp, ik, bg, ln, od, sco, leo, smo, mc, vc, sc, pc, kc, ic, bc, lc, oc, xc, ec, uc, hV, h3, hH, h6, h8, hB, hS0, hS1⟩ := id hM
  have hD : vdp g D := hV.1
  have hP : vnp g l nx := hV.2
  have hDl := hD.2.2
  have hPl := hP.2.2.1
  have hnx := hP.2.2.2.1
  have hBl := hB.1
  have hHl := hH.1
  refine Ctr.of rfl (Nat.le_of_ble_eq_true rfl) fun S hS => ?_
  have hb : S.1.1 = cX9_load := by rw [hS]; rfl
  have ho : S.1.2.1 = RX9 := by rw [hS]; rfl
  have hnL : S.1.2.2.1 = 3 := by rw [hS]; rfl
  have hR0 : S.2.1 = rm_X9_load := by rw [hS]; rfl
  show Wp S 0 [(0, .ref mo)] [] w n 0 0
  refine r_aload_n hb 1 dX9_load_0 rfl 0 rfl ?_
  refine r_callV0 (st := []) hb ho 4 dX9_load_1 rfl ck_X9_66 (c_X9_begins mo rg g sp mc vc sc) rfl rfl (mc) rfl rfl (by rw [hR0]; exact ⟨Nat.le_of_ble_eq_true rfl, Nat.le_of_ble_eq_true rfl⟩) (Nat.le_of_ble_eq_true rfl) ⟨rfl, rfl⟩ (by rw [hR0]; exact Nat.zero_le _) (by rw [hR0]; exact Nat.zero_le _) (fun w_1 nw_1 qw_1 => ?_)
  obtain ⟨rfl, ⟨sp1, sc, spi⟩, ow_1⟩ := qw_1
  have hsp : vpo sp1 0 (D, l, nx) := vpg_o (hV.congr (fun i hi => spi i hi))
  have mc : w_1 mo = some (eO 9 [.ref (mo + 1), .ref (mo + 2), .ref (mo + 3), .int (iI ((rg 3))), .ref (mo + 4), .ref (mo + 5), .int (iI ((rg 6))), .ref (mo + 6), .int (iI ((rg 8))), .ref (mo + 7), .int (iI ((rg 10))), .int (iI ((rg 11))), .int (iI ((rg 12))), .int (iI ((rg 13))), .int (iI ((rg 14))), .ref (mo + 8), .int (iI ((rg 16))), .ref (mo + 9), .ref (mo + 10), .ref (mo + 11)]) := (ow_1 _ (by omega)).trans mc
  have vc : w_1 (mo + 1) = some (eI 483 g) := (ow_1 _ (by omega)).trans vc
  have pc : w_1 (mo + 3) = some (eI 2898 pa) := (ow_1 _ (by omega)).trans pc
  have kc : w_1 (mo + 4) = some (eI 968 kp) := (ow_1 _ (by omega)).trans kc
  have ic : w_1 (mo + 5) = some (eZ 2 ik) := (ow_1 _ (by omega)).trans ic
  have bc : w_1 (mo + 6) = some (eI 40 bg) := (ow_1 _ (by omega)).trans bc
  have lc : w_1 (mo + 7) = some (eI 17 (fun ii => iI ((ln ii : Nat) : Int))) := (ow_1 _ (by omega)).trans lc
  have oc : w_1 (mo + 8) = some (eI 10 (fun ii => iI ((od ii : Nat) : Int))) := (ow_1 _ (by omega)).trans oc
  have xc : w_1 (mo + 9) = some (eI 1210 (fun ii => iI (sco ii))) := (ow_1 _ (by omega)).trans xc
  have ec : w_1 (mo + 10) = some (eI 1210 (fun ii => iI (leo ii))) := (ow_1 _ (by omega)).trans ec
  have uc : w_1 (mo + 11) = some (eI 1331 (fun ii => iI (smo ii))) := (ow_1 _ (by omega)).trans uc
  refine r_aload_n hb 5 dX9_load_4 rfl 0 rfl ?_
  refine r_get hb ho 8 dX9_load_5 rfl lk_X9_7 pf_X9_0 mc rfl ?_
  refine r_iconst hb 9 dX9_load_8 rfl ?_
  refine r_iald hb 10 dX9_load_9 rfl vc 0 (by omega) (⟨by omega, by omega⟩) ?_
  refine r_topz ((((D).length : Nat) : Int)) (hD.1) ?_
  refine r_istore_n [(1, .int (iI ((((D).length : Nat) : Int)))), (0, .ref mo)] hb 11 3 dX9_load_10 rfl rfl hnL (by decide) rfl ?_
  refine r_aload_n hb 12 dX9_load_11 rfl 1 rfl ?_
  refine r_get hb ho 15 dX9_load_12 rfl lk_X9_7 pf_X9_0 mc rfl ?_
  refine r_iconst hb 16 dX9_load_15 rfl ?_
  refine r_aload_n hb 17 dX9_load_16 rfl 1 rfl ?_
  refine r_get hb ho 20 dX9_load_17 rfl lk_X9_63 pf_X9_8 mc rfl ?_
  refine r_topv (.int (iI (((B.length : Nat) : Int)))) (congrArg (fun z => Value.int (iI z)) (by omega)) ?_
  refine r_iast hb 21 dX9_load_20 rfl vc 0 (by omega) (⟨by omega, by omega⟩) (fun w_20 hw_20 => ?_)
  have ow_20 := pset_off hw_20
  have xw_20 : w_20 (mo + 1) = some (eI 483 (upd g 0 ((iI (((B.length : Nat) : Int)))))) := by rw [hw_20]; exact pset_eq _ _ _
  have sc : w_20 (mo + 2) = some (eI 483 sp1) := (ow_20 _ (by omega)).trans sc
  have mc : w_20 mo = some (eO 9 [.ref (mo + 1), .ref (mo + 2), .ref (mo + 3), .int (iI ((rg 3))), .ref (mo + 4), .ref (mo + 5), .int (iI ((rg 6))), .ref (mo + 6), .int (iI ((rg 8))), .ref (mo + 7), .int (iI ((rg 10))), .int (iI ((rg 11))), .int (iI ((rg 12))), .int (iI ((rg 13))), .int (iI ((rg 14))), .ref (mo + 8), .int (iI ((rg 16))), .ref (mo + 9), .ref (mo + 10), .ref (mo + 11)]) := (ow_20 _ (by omega)).trans mc
  have pc : w_20 (mo + 3) = some (eI 2898 pa) := (ow_20 _ (by omega)).trans pc
  have kc : w_20 (mo + 4) = some (eI 968 kp) := (ow_20 _ (by omega)).trans kc
  have ic : w_20 (mo + 5) = some (eZ 2 ik) := (ow_20 _ (by omega)).trans ic
  have bc : w_20 (mo + 6) = some (eI 40 bg) := (ow_20 _ (by omega)).trans bc
  have lc : w_20 (mo + 7) = some (eI 17 (fun ii => iI ((ln ii : Nat) : Int))) := (ow_20 _ (by omega)).trans lc
  have oc : w_20 (mo + 8) = some (eI 10 (fun ii => iI ((od ii : Nat) : Int))) := (ow_20 _ (by omega)).trans oc
  have xc : w_20 (mo + 9) = some (eI 1210 (fun ii => iI (sco ii))) := (ow_20 _ (by omega)).trans xc
  have ec : w_20 (mo + 10) = some (eI 1210 (fun ii => iI (leo ii))) := (ow_20 _ (by omega)).trans ec
  have uc : w_20 (mo + 11) = some (eI 1331 (fun ii => iI (smo ii))) := (ow_20 _ (by omega)).trans uc
  refine r_iconst hb 22 dX9_load_21 rfl ?_
  refine r_istore_n [(2, .int (iI 0)), (1, .int (iI ((((D).length : Nat) : Int)))), (0, .ref mo)] hb 23 3 dX9_load_22 rfl rfl hnL (by decide) rfl ?_
  have lp : ∀ (d : Nat) (i : Nat) (wi : PW) (gi : Nat → Int32), 40 - i = d → (i ≤ B.length) → (wi (mo + 1) = some (eI 483 gi)) → (wi mo = some (eO 9 [.ref (mo + 1), .ref (mo + 2), .ref (mo + 3), .int (iI ((rg 3))), .ref (mo + 4), .ref (mo + 5), .int (iI ((rg 6))), .ref (mo + 6), .int (iI ((rg 8))), .ref (mo + 7), .int (iI ((rg 10))), .int (iI ((rg 11))), .int (iI ((rg 12))), .int (iI ((rg 13))), .int (iI ((rg 14))), .ref (mo + 8), .int (iI ((rg 16))), .ref (mo + 9), .ref (mo + 10), .ref (mo + 11)])) → (wi (mo + 2) = some (eI 483 sp1)) → (wi (mo + 3) = some (eI 2898 pa)) → (wi (mo + 4) = some (eI 968 kp)) → (wi (mo + 5) = some (eZ 2 ik)) → (wi (mo + 6) = some (eI 40 bg)) → (wi (mo + 7) = some (eI 17 (fun ii => iI ((ln ii : Nat) : Int)))) → (wi (mo + 8) = some (eI 10 (fun ii => iI ((od ii : Nat) : Int)))) → (wi (mo + 9) = some (eI 1210 (fun ii => iI (sco ii)))) → (wi (mo + 10) = some (eI 1210 (fun ii => iI (leo ii)))) → (wi (mo + 11) = some (eI 1331 (fun ii => iI (smo ii)))) → (gi 0 = iI ((B.length : Nat) : Int)) → (∀ j, j < i → gi (1 + j) = B.getD j 0) → (∀ q, 121 ≤ q → gi q = g q) → (off w wi mo (mo + 12)) → Wp S 23 [(2, .int (iI (((i : Nat) : Int)))), (1, .int (iI (((D.length : Nat) : Int)))), (0, .ref mo)] [] wi n 0 0 := by
    intro d
    induction d using Nat.strongRecOn with
    | _ d ih_lp =>
      intro i wi gi hd_lp hi vc mc sc pc kc ic bc lc oc xc ec uc q0 q1 q2 hO
      refine r_iload_n hb 24 dX9_load_23 rfl 0 rfl ?_
      refine r_aload_n hb 25 dX9_load_24 rfl 2 rfl ?_
      refine r_get hb ho 28 dX9_load_25 rfl lk_X9_63 pf_X9_8 mc rfl ?_
      refine r_topv (.int (iI (((B.length : Nat) : Int)))) (congrArg (fun z => Value.int (iI z)) (by omega)) ?_
      refine r_icmp_ge hb 31 51 dX9_load_28 rfl (by decide) (by omega) (by omega) (fun c28 => ?_) (fun c28 => ?_)
      · refine r_iconst hb 52 dX9_load_51 rfl ?_
        refine r_istore_n [(2, .int (iI 0)), (1, .int (iI (((D.length : Nat) : Int)))), (0, .ref mo)] hb 53 3 dX9_load_52 rfl rfl hnL (by decide) rfl ?_
        have lq : ∀ (d : Nat) (k : Nat) (wi : PW) (gi : Nat → Int32), l.length - k = d → (k ≤ l.length) → (wi (mo + 1) = some (eI 483 gi)) → (wi mo = some (eO 9 [.ref (mo + 1), .ref (mo + 2), .ref (mo + 3), .int (iI ((rg 3))), .ref (mo + 4), .ref (mo + 5), .int (iI ((rg 6))), .ref (mo + 6), .int (iI ((rg 8))), .ref (mo + 7), .int (iI ((rg 10))), .int (iI ((rg 11))), .int (iI ((rg 12))), .int (iI ((rg 13))), .int (iI ((rg 14))), .ref (mo + 8), .int (iI ((rg 16))), .ref (mo + 9), .ref (mo + 10), .ref (mo + 11)])) → (wi (mo + 2) = some (eI 483 sp1)) → (wi (mo + 3) = some (eI 2898 pa)) → (wi (mo + 4) = some (eI 968 kp)) → (wi (mo + 5) = some (eZ 2 ik)) → (wi (mo + 6) = some (eI 40 bg)) → (wi (mo + 7) = some (eI 17 (fun ii => iI ((ln ii : Nat) : Int)))) → (wi (mo + 8) = some (eI 10 (fun ii => iI ((od ii : Nat) : Int)))) → (wi (mo + 9) = some (eI 1210 (fun ii => iI (sco ii)))) → (wi (mo + 10) = some (eI 1210 (fun ii => iI (leo ii)))) → (wi (mo + 11) = some (eI 1331 (fun ii => iI (smo ii)))) → (vdp gi B) → (gi 121 = iI ((nx : Nat) : Int)) → (gi 122 = iI ((l.length : Nat) : Int)) → (vnx gi (fun m => if m < k then mvRep B.length (lg l m) else lg l m) l.length) → (off w wi mo (mo + 12)) → Wp S 53 [(2, .int (iI (((k : Nat) : Int)))), (1, .int (iI (((D.length : Nat) : Int)))), (0, .ref mo)] [] wi n 0 0 := by
          intro d
          induction d using Nat.strongRecOn with
          | _ d ih_lq =>
            intro k wi gi hd_lq hk vc mc sc pc kc ic bc lc oc xc ec uc hDi q1 q2 hXi hO
            refine r_iload_n hb 54 dX9_load_53 rfl 0 rfl ?_
            refine r_aload_n hb 55 dX9_load_54 rfl 2 rfl ?_
            refine r_get hb ho 58 dX9_load_55 rfl lk_X9_7 pf_X9_0 mc rfl ?_
            refine r_bipush 122 hb 60 dX9_load_58 rfl rfl ?_
            refine r_iald hb 61 dX9_load_60 rfl vc 122 (by omega) (⟨by omega, by omega⟩) ?_
            refine r_topz (((l.length : Nat) : Int)) (q2) ?_
            refine r_icmp_ge hb 64 135 dX9_load_61 rfl (by decide) (by omega) (by omega) (fun c61 => ?_) (fun c61 => ?_)
            · refine r_aload_n hb 136 dX9_load_135 rfl 2 rfl ?_
              refine r_iload_n hb 137 dX9_load_136 rfl 1 rfl ?_
              refine r_callV1 (st := []) hb ho 140 dX9_load_137 rfl ck_X9_72 (c_X9_made mo rg sp1 pa hs (D, l, nx) (iI (((D.length : Nat) : Int))) mc sc pc h3 hH hsp) rfl rfl (mc) rfl rfl (by rw [hR0]; exact ⟨Nat.le_of_ble_eq_true rfl, Nat.le_of_ble_eq_true rfl⟩) (Nat.le_of_ble_eq_true rfl) ⟨rfl, rfl⟩ (by rw [hR0]; exact Nat.zero_le _) (by rw [hR0]; exact Nat.zero_le _) (fun vw_137 w_137 nw_137 qw_137 => ?_)
              obtain ⟨rfl, rfl, ⟨rg3, pa1, mc, hF3, h3, pc, hH⟩, ow_137⟩ := qw_137
              have h6 := (hF3 6 (by decide)).trans h6
              have h8 := (hF3 8 (by decide)).trans h8
              have vc : w_137 (mo + 1) = some (eI 483 gi) := (ow_137 _ (by omega) (by omega)).trans vc
              have sc : w_137 (mo + 2) = some (eI 483 sp1) := (ow_137 _ (by omega) (by omega)).trans sc
              have kc : w_137 (mo + 4) = some (eI 968 kp) := (ow_137 _ (by omega) (by omega)).trans kc
              have ic : w_137 (mo + 5) = some (eZ 2 ik) := (ow_137 _ (by omega) (by omega)).trans ic
              have bc : w_137 (mo + 6) = some (eI 40 bg) := (ow_137 _ (by omega) (by omega)).trans bc
              have lc : w_137 (mo + 7) = some (eI 17 (fun ii => iI ((ln ii : Nat) : Int))) := (ow_137 _ (by omega) (by omega)).trans lc
              have oc : w_137 (mo + 8) = some (eI 10 (fun ii => iI ((od ii : Nat) : Int))) := (ow_137 _ (by omega) (by omega)).trans oc
              have xc : w_137 (mo + 9) = some (eI 1210 (fun ii => iI (sco ii))) := (ow_137 _ (by omega) (by omega)).trans xc
              have ec : w_137 (mo + 10) = some (eI 1210 (fun ii => iI (leo ii))) := (ow_137 _ (by omega) (by omega)).trans ec
              have uc : w_137 (mo + 11) = some (eI 1331 (fun ii => iI (smo ii))) := (ow_137 _ (by omega) (by omega)).trans uc
              refine r_iret hS dX9_load_140 rfl rfl (Nat.zero_le _) (Nat.zero_le _) ?_
              have ek : k = l.length := by omega
              subst ek
              have hV1 : vpg gi (B, l.map (mvRep B.length), nx) := ⟨hDi, q1, by rw [List.length_map]; exact q2, by rw [List.length_map]; exact hPl, hnx, vnx_map hXi⟩
              have e : oLoad B D l nx hs s0 s1 thr  = (iI ((D.length : Nat) : Int), stP B D l nx hs s0 s1 thr (B, l.map (mvRep B.length), nx)) := by unfold oLoad; rfl
              rw [e]
              exact ⟨_, rfl, rfl, rfl, ⟨rg3, gi, sp1, pa1, kp, ik, bg, ln, od, sco, leo, smo, mc, vc, sc, pc, kc, ic, bc, lc, oc, xc, ec, uc, hV1, h3, hH, h6, h8, hB, hS0, hS1⟩, (hO.trans (ow_137.cov (by omega) (by omega) (by omega) (by omega)))⟩
            · have hN := vnx_at hXi (by omega : k < l.length)
              obtain ⟨n0, n1, n2, n3, n4, n5, n6, n7, n8, n9, n10, n11, n12, n13⟩ := id (hN)
              refine r_aload_n hb 65 dX9_load_64 rfl 2 rfl ?_
              refine r_get hb ho 68 dX9_load_65 rfl lk_X9_7 pf_X9_0 mc rfl ?_
              refine r_iload_n hb 69 dX9_load_68 rfl 0 rfl ?_
              refine r_iconst hb 70 dX9_load_69 rfl ?_
              refine r_callSR (st := [.ref (mo + 1)]) hb ho 73 dX9_load_70 rfl ck_X9_48 (c_X9_at (((k : Nat) : Int)) 1 (36 * ((k : Nat) : Int) + 124) (by omega)) rfl rfl (by rw [hR0]; exact ⟨Nat.le_of_ble_eq_true rfl, Nat.le_of_ble_eq_true rfl⟩) (Nat.le_of_ble_eq_true rfl) ⟨rfl, rfl⟩ (by rw [hR0]; exact Nat.zero_le _) (by rw [hR0]; exact Nat.zero_le _) ?_
              refine r_iconst hb 74 dX9_load_73 rfl ?_
              refine r_iast hb 75 dX9_load_74 rfl vc (123 + 36 * k + 1) (by omega) (⟨by omega, by omega⟩) (fun w_74 hw_74 => ?_)
              have ow_74 := pset_off hw_74
              have xw_74 : w_74 (mo + 1) = some (eI 483 (upd gi (123 + 36 * k + 1) ((iI 0)))) := by rw [hw_74]; exact pset_eq _ _ _
              have mc : w_74 mo = some (eO 9 [.ref (mo + 1), .ref (mo + 2), .ref (mo + 3), .int (iI ((rg 3))), .ref (mo + 4), .ref (mo + 5), .int (iI ((rg 6))), .ref (mo + 6), .int (iI ((rg 8))), .ref (mo + 7), .int (iI ((rg 10))), .int (iI ((rg 11))), .int (iI ((rg 12))), .int (iI ((rg 13))), .int (iI ((rg 14))), .ref (mo + 8), .int (iI ((rg 16))), .ref (mo + 9), .ref (mo + 10), .ref (mo + 11)]) := (ow_74 _ (by omega)).trans mc
              have sc : w_74 (mo + 2) = some (eI 483 sp1) := (ow_74 _ (by omega)).trans sc
              have pc : w_74 (mo + 3) = some (eI 2898 pa) := (ow_74 _ (by omega)).trans pc
              have kc : w_74 (mo + 4) = some (eI 968 kp) := (ow_74 _ (by omega)).trans kc
              have ic : w_74 (mo + 5) = some (eZ 2 ik) := (ow_74 _ (by omega)).trans ic
              have bc : w_74 (mo + 6) = some (eI 40 bg) := (ow_74 _ (by omega)).trans bc
              have lc : w_74 (mo + 7) = some (eI 17 (fun ii => iI ((ln ii : Nat) : Int))) := (ow_74 _ (by omega)).trans lc
              have oc : w_74 (mo + 8) = some (eI 10 (fun ii => iI ((od ii : Nat) : Int))) := (ow_74 _ (by omega)).trans oc
              have xc : w_74 (mo + 9) = some (eI 1210 (fun ii => iI (sco ii))) := (ow_74 _ (by omega)).trans xc
              have ec : w_74 (mo + 10) = some (eI 1210 (fun ii => iI (leo ii))) := (ow_74 _ (by omega)).trans ec
              have uc : w_74 (mo + 11) = some (eI 1331 (fun ii => iI (smo ii))) := (ow_74 _ (by omega)).trans uc
              refine r_aload_n hb 76 dX9_load_75 rfl 2 rfl ?_
              refine r_get hb ho 79 dX9_load_76 rfl lk_X9_7 pf_X9_0 mc rfl ?_
              refine r_iload_n hb 80 dX9_load_79 rfl 0 rfl ?_
              refine r_iconst hb 81 dX9_load_80 rfl ?_
              refine r_callSR (st := [.ref (mo + 1)]) hb ho 84 dX9_load_81 rfl ck_X9_48 (c_X9_at (((k : Nat) : Int)) 2 (36 * ((k : Nat) : Int) + 125) (by omega)) rfl rfl (by rw [hR0]; exact ⟨Nat.le_of_ble_eq_true rfl, Nat.le_of_ble_eq_true rfl⟩) (Nat.le_of_ble_eq_true rfl) ⟨rfl, rfl⟩ (by rw [hR0]; exact Nat.zero_le _) (by rw [hR0]; exact Nat.zero_le _) ?_
              refine r_aload_n hb 85 dX9_load_84 rfl 2 rfl ?_
              refine r_get hb ho 88 dX9_load_85 rfl lk_X9_7 pf_X9_0 mc rfl ?_
              refine r_iload_n hb 89 dX9_load_88 rfl 0 rfl ?_
              refine r_iconst hb 90 dX9_load_89 rfl ?_
              refine r_callSR (st := [.ref (mo + 1), .int (iI (36 * ((k : Nat) : Int) + 125)), .ref (mo + 1)]) hb ho 93 dX9_load_90 rfl ck_X9_48 (c_X9_at (((k : Nat) : Int)) 2 (36 * ((k : Nat) : Int) + 125) (by omega)) rfl rfl (by rw [hR0]; exact ⟨Nat.le_of_ble_eq_true rfl, Nat.le_of_ble_eq_true rfl⟩) (Nat.le_of_ble_eq_true rfl) ⟨rfl, rfl⟩ (by rw [hR0]; exact Nat.zero_le _) (by rw [hR0]; exact Nat.zero_le _) ?_
              refine r_iald hb 94 dX9_load_93 rfl xw_74 (123 + 36 * k + 2) (by omega) (⟨by omega, by omega⟩) ?_
              refine r_topz (((nB (lg l k) : Nat) : Int)) ((pk_un (by omega)).trans n2) ?_
              refine r_aload_n hb 95 dX9_load_94 rfl 2 rfl ?_
              refine r_get hb ho 98 dX9_load_95 rfl lk_X9_63 pf_X9_8 mc rfl ?_
              refine r_topv (.int (iI (((B.length : Nat) : Int)))) (congrArg (fun z => Value.int (iI z)) (by omega)) ?_
              refine r_callSR (st := [.int (iI (36 * ((k : Nat) : Int) + 125)), .ref (mo + 1)]) hb ho 101 dX9_load_98 rfl ck_X9_69 (c_X9_least (((nB (lg l k) : Nat) : Int)) (((B.length : Nat) : Int)) (((min ((nB (lg l k))) B.length : Nat) : Int)) (by omega)) rfl rfl (by rw [hR0]; exact ⟨Nat.le_of_ble_eq_true rfl, Nat.le_of_ble_eq_true rfl⟩) (Nat.le_of_ble_eq_true rfl) ⟨rfl, rfl⟩ (by rw [hR0]; exact Nat.zero_le _) (by rw [hR0]; exact Nat.zero_le _) ?_
              refine r_iast hb 102 dX9_load_101 rfl xw_74 (123 + 36 * k + 2) (by omega) (⟨by omega, by omega⟩) (fun w_101 hw_101 => ?_)
              have ow_101 := pset_off hw_101
              have xw_101 : w_101 (mo + 1) = some (eI 483 (upd (upd gi (123 + 36 * k + 1) ((iI 0))) (123 + 36 * k + 2) ((iI (((min ((nB (lg l k))) B.length : Nat) : Int)))))) := by rw [hw_101]; exact pset_eq _ _ _
              have mc : w_101 mo = some (eO 9 [.ref (mo + 1), .ref (mo + 2), .ref (mo + 3), .int (iI ((rg 3))), .ref (mo + 4), .ref (mo + 5), .int (iI ((rg 6))), .ref (mo + 6), .int (iI ((rg 8))), .ref (mo + 7), .int (iI ((rg 10))), .int (iI ((rg 11))), .int (iI ((rg 12))), .int (iI ((rg 13))), .int (iI ((rg 14))), .ref (mo + 8), .int (iI ((rg 16))), .ref (mo + 9), .ref (mo + 10), .ref (mo + 11)]) := (ow_101 _ (by omega)).trans mc
              have sc : w_101 (mo + 2) = some (eI 483 sp1) := (ow_101 _ (by omega)).trans sc
              have pc : w_101 (mo + 3) = some (eI 2898 pa) := (ow_101 _ (by omega)).trans pc
              have kc : w_101 (mo + 4) = some (eI 968 kp) := (ow_101 _ (by omega)).trans kc
              have ic : w_101 (mo + 5) = some (eZ 2 ik) := (ow_101 _ (by omega)).trans ic
              have bc : w_101 (mo + 6) = some (eI 40 bg) := (ow_101 _ (by omega)).trans bc
              have lc : w_101 (mo + 7) = some (eI 17 (fun ii => iI ((ln ii : Nat) : Int))) := (ow_101 _ (by omega)).trans lc
              have oc : w_101 (mo + 8) = some (eI 10 (fun ii => iI ((od ii : Nat) : Int))) := (ow_101 _ (by omega)).trans oc
              have xc : w_101 (mo + 9) = some (eI 1210 (fun ii => iI (sco ii))) := (ow_101 _ (by omega)).trans xc
              have ec : w_101 (mo + 10) = some (eI 1210 (fun ii => iI (leo ii))) := (ow_101 _ (by omega)).trans ec
              have uc : w_101 (mo + 11) = some (eI 1331 (fun ii => iI (smo ii))) := (ow_101 _ (by omega)).trans uc
              refine r_aload_n hb 103 dX9_load_102 rfl 2 rfl ?_
              refine r_get hb ho 106 dX9_load_103 rfl lk_X9_7 pf_X9_0 mc rfl ?_
              refine r_iload_n hb 107 dX9_load_106 rfl 0 rfl ?_
              refine r_iconst hb 108 dX9_load_107 rfl ?_
              refine r_callSR (st := [.ref (mo + 1)]) hb ho 111 dX9_load_108 rfl ck_X9_48 (c_X9_at (((k : Nat) : Int)) 3 (36 * ((k : Nat) : Int) + 126) (by omega)) rfl rfl (by rw [hR0]; exact ⟨Nat.le_of_ble_eq_true rfl, Nat.le_of_ble_eq_true rfl⟩) (Nat.le_of_ble_eq_true rfl) ⟨rfl, rfl⟩ (by rw [hR0]; exact Nat.zero_le _) (by rw [hR0]; exact Nat.zero_le _) ?_
              refine r_aload_n hb 112 dX9_load_111 rfl 2 rfl ?_
              refine r_get hb ho 115 dX9_load_112 rfl lk_X9_7 pf_X9_0 mc rfl ?_
              refine r_iload_n hb 116 dX9_load_115 rfl 0 rfl ?_
              refine r_iconst hb 117 dX9_load_116 rfl ?_
              refine r_callSR (st := [.ref (mo + 1), .int (iI (36 * ((k : Nat) : Int) + 126)), .ref (mo + 1)]) hb ho 120 dX9_load_117 rfl ck_X9_48 (c_X9_at (((k : Nat) : Int)) 3 (36 * ((k : Nat) : Int) + 126) (by omega)) rfl rfl (by rw [hR0]; exact ⟨Nat.le_of_ble_eq_true rfl, Nat.le_of_ble_eq_true rfl⟩) (Nat.le_of_ble_eq_true rfl) ⟨rfl, rfl⟩ (by rw [hR0]; exact Nat.zero_le _) (by rw [hR0]; exact Nat.zero_le _) ?_
              refine r_iald hb 121 dX9_load_120 rfl xw_101 (123 + 36 * k + 3) (by omega) (⟨by omega, by omega⟩) ?_
              refine r_topz (((nE (lg l k) : Nat) : Int)) ((pk_un (by omega)).trans ((pk_un (by omega)).trans n3)) ?_
              refine r_aload_n hb 122 dX9_load_121 rfl 2 rfl ?_
              refine r_get hb ho 125 dX9_load_122 rfl lk_X9_63 pf_X9_8 mc rfl ?_
              refine r_topv (.int (iI (((B.length : Nat) : Int)))) (congrArg (fun z => Value.int (iI z)) (by omega)) ?_
              refine r_callSR (st := [.int (iI (36 * ((k : Nat) : Int) + 126)), .ref (mo + 1)]) hb ho 128 dX9_load_125 rfl ck_X9_69 (c_X9_least (((nE (lg l k) : Nat) : Int)) (((B.length : Nat) : Int)) (((min ((nE (lg l k))) B.length : Nat) : Int)) (by omega)) rfl rfl (by rw [hR0]; exact ⟨Nat.le_of_ble_eq_true rfl, Nat.le_of_ble_eq_true rfl⟩) (Nat.le_of_ble_eq_true rfl) ⟨rfl, rfl⟩ (by rw [hR0]; exact Nat.zero_le _) (by rw [hR0]; exact Nat.zero_le _) ?_
              refine r_iast hb 129 dX9_load_128 rfl xw_101 (123 + 36 * k + 3) (by omega) (⟨by omega, by omega⟩) (fun w_128 hw_128 => ?_)
              have ow_128 := pset_off hw_128
              have xw_128 : w_128 (mo + 1) = some (eI 483 (upd (upd (upd gi (123 + 36 * k + 1) ((iI 0))) (123 + 36 * k + 2) ((iI (((min ((nB (lg l k))) B.length : Nat) : Int))))) (123 + 36 * k + 3) ((iI (((min ((nE (lg l k))) B.length : Nat) : Int)))))) := by rw [hw_128]; exact pset_eq _ _ _
              have mc : w_128 mo = some (eO 9 [.ref (mo + 1), .ref (mo + 2), .ref (mo + 3), .int (iI ((rg 3))), .ref (mo + 4), .ref (mo + 5), .int (iI ((rg 6))), .ref (mo + 6), .int (iI ((rg 8))), .ref (mo + 7), .int (iI ((rg 10))), .int (iI ((rg 11))), .int (iI ((rg 12))), .int (iI ((rg 13))), .int (iI ((rg 14))), .ref (mo + 8), .int (iI ((rg 16))), .ref (mo + 9), .ref (mo + 10), .ref (mo + 11)]) := (ow_128 _ (by omega)).trans mc
              have sc : w_128 (mo + 2) = some (eI 483 sp1) := (ow_128 _ (by omega)).trans sc
              have pc : w_128 (mo + 3) = some (eI 2898 pa) := (ow_128 _ (by omega)).trans pc
              have kc : w_128 (mo + 4) = some (eI 968 kp) := (ow_128 _ (by omega)).trans kc
              have ic : w_128 (mo + 5) = some (eZ 2 ik) := (ow_128 _ (by omega)).trans ic
              have bc : w_128 (mo + 6) = some (eI 40 bg) := (ow_128 _ (by omega)).trans bc
              have lc : w_128 (mo + 7) = some (eI 17 (fun ii => iI ((ln ii : Nat) : Int))) := (ow_128 _ (by omega)).trans lc
              have oc : w_128 (mo + 8) = some (eI 10 (fun ii => iI ((od ii : Nat) : Int))) := (ow_128 _ (by omega)).trans oc
              have xc : w_128 (mo + 9) = some (eI 1210 (fun ii => iI (sco ii))) := (ow_128 _ (by omega)).trans xc
              have ec : w_128 (mo + 10) = some (eI 1210 (fun ii => iI (leo ii))) := (ow_128 _ (by omega)).trans ec
              have uc : w_128 (mo + 11) = some (eI 1331 (fun ii => iI (smo ii))) := (ow_128 _ (by omega)).trans uc
              refine r_iinc [(2, .int (iI (((k : Nat) : Int) + 1))), (1, .int (iI (((D.length : Nat) : Int)))), (0, .ref mo)] hb 132 3 0 dX9_load_129 rfl rfl hnL (by decide) (((k : Nat) : Int) + 1) (by omega) rfl ?_
              refine r_goto hb 53 dX9_load_132 (by decide) ?_
              refine r_lv [(2, .int (iI (((k + 1 : Nat) : Int)))), (1, .int (iI (((D.length : Nat) : Int)))), (0, .ref mo)] [0, 1, 2] rfl ?_
              refine ih_lq (l.length - (k + 1)) (by omega) (k + 1) _ _ rfl (by omega) xw_128 mc sc pc kc ic bc lc oc xc ec uc ?_ ?_ ?_ ?_ (hO.trans (((ow_74.mono (by omega) (by omega)).trans (ow_101.mono (by omega) (by omega))).trans (ow_128.mono (by omega) (by omega))))
              · exact hDi.congr (fun q hq => by rw [pk_un (by omega), pk_un (by omega), pk_un (by omega)])
              · rw [pk_un (by omega), pk_un (by omega), pk_un (by omega)]; exact q1
              · rw [pk_un (by omega), pk_un (by omega), pk_un (by omega)]; exact q2
              · refine vnx_step (ys := fun m => mvRep B.length (lg l m)) hXi (vnt_head hN (fun q h1 h2 => ?_) ?_ ?_ ?_ ?_ ?_ rfl ⟨n11, ?_, ?_⟩) (fun q hq => ?_)
                · rw [pk_un (by omega), pk_un (by omega), pk_un (by omega)]
                · rw [pk_un (by omega), pk_un (by omega), pk_un (by omega)]; exact n0
                · rw [pk_un (by omega), pk_un (by omega), pk_us]; rfl
                · rw [pk_un (by omega), pk_us]; rfl
                · rw [pk_us]; rfl
                · rw [pk_un (by omega), pk_un (by omega), pk_un (by omega)]; exact n4
                · show min (nB (lg l k)) B.length ≤ 200; omega
                · show min (nE (lg l k)) B.length ≤ 200; omega
                · rw [pk_un (by omega), pk_un (by omega), pk_un (by omega)]
        refine r_lv [(2, .int (iI (((0 : Nat) : Int)))), (1, .int (iI (((D.length : Nat) : Int)))), (0, .ref mo)] [0, 1, 2] rfl ?_
        exact lq _ 0 _ _ rfl (Nat.zero_le _) vc mc sc pc kc ic bc lc oc xc ec uc ⟨by rw [q0], fun j hj => q1 j (by omega), by omega⟩ ((q2 _ (by omega)).trans hP.1) ((q2 _ (by omega)).trans hP.2.1) (vnx_none (hP.2.2.2.2.congr hPl (fun q h1 _ => q2 q (by omega)))) hO
      · refine r_aload_n hb 32 dX9_load_31 rfl 2 rfl ?_
        refine r_get hb ho 35 dX9_load_32 rfl lk_X9_7 pf_X9_0 mc rfl ?_
        refine r_iconst hb 36 dX9_load_35 rfl ?_
        refine r_iload_n hb 37 dX9_load_36 rfl 0 rfl ?_
        refine r_iaddZ hb 38 (((i : Nat) : Int) + 1) dX9_load_37 rfl (by omega) ?_
        refine r_aload_n hb 39 dX9_load_38 rfl 2 rfl ?_
        refine r_get hb ho 42 dX9_load_39 rfl lk_X9_30 pf_X9_7 mc rfl ?_
        refine r_iload_n hb 43 dX9_load_42 rfl 0 rfl ?_
        refine r_iald hb 44 dX9_load_43 rfl bc i (by omega) (⟨by omega, by omega⟩) ?_
        refine r_topv (.int (B.getD i 0)) (congrArg Value.int (hB.2 i (by omega))) ?_
        refine r_iast hb 45 dX9_load_44 rfl vc (1 + i) (by omega) (⟨by omega, by omega⟩) (fun w_44 hw_44 => ?_)
        have ow_44 := pset_off hw_44
        have xw_44 : w_44 (mo + 1) = some (eI 483 (upd gi (1 + i) ((B.getD i 0)))) := by rw [hw_44]; exact pset_eq _ _ _
        have mc : w_44 mo = some (eO 9 [.ref (mo + 1), .ref (mo + 2), .ref (mo + 3), .int (iI ((rg 3))), .ref (mo + 4), .ref (mo + 5), .int (iI ((rg 6))), .ref (mo + 6), .int (iI ((rg 8))), .ref (mo + 7), .int (iI ((rg 10))), .int (iI ((rg 11))), .int (iI ((rg 12))), .int (iI ((rg 13))), .int (iI ((rg 14))), .ref (mo + 8), .int (iI ((rg 16))), .ref (mo + 9), .ref (mo + 10), .ref (mo + 11)]) := (ow_44 _ (by omega)).trans mc
        have sc : w_44 (mo + 2) = some (eI 483 sp1) := (ow_44 _ (by omega)).trans sc
        have pc : w_44 (mo + 3) = some (eI 2898 pa) := (ow_44 _ (by omega)).trans pc
        have kc : w_44 (mo + 4) = some (eI 968 kp) := (ow_44 _ (by omega)).trans kc
        have ic : w_44 (mo + 5) = some (eZ 2 ik) := (ow_44 _ (by omega)).trans ic
        have bc : w_44 (mo + 6) = some (eI 40 bg) := (ow_44 _ (by omega)).trans bc
        have lc : w_44 (mo + 7) = some (eI 17 (fun ii => iI ((ln ii : Nat) : Int))) := (ow_44 _ (by omega)).trans lc
        have oc : w_44 (mo + 8) = some (eI 10 (fun ii => iI ((od ii : Nat) : Int))) := (ow_44 _ (by omega)).trans oc
        have xc : w_44 (mo + 9) = some (eI 1210 (fun ii => iI (sco ii))) := (ow_44 _ (by omega)).trans xc
        have ec : w_44 (mo + 10) = some (eI 1210 (fun ii => iI (leo ii))) := (ow_44 _ (by omega)).trans ec
        have uc : w_44 (mo + 11) = some (eI 1331 (fun ii => iI (smo ii))) := (ow_44 _ (by omega)).trans uc
        refine r_iinc [(2, .int (iI (((i : Nat) : Int) + 1))), (1, .int (iI (((D.length : Nat) : Int)))), (0, .ref mo)] hb 48 3 0 dX9_load_45 rfl rfl hnL (by decide) (((i : Nat) : Int) + 1) (by omega) rfl ?_
        refine r_goto hb 23 dX9_load_48 (by decide) ?_
        refine r_lv [(2, .int (iI (((i + 1 : Nat) : Int)))), (1, .int (iI (((D.length : Nat) : Int)))), (0, .ref mo)] [0, 1, 2] rfl ?_
        refine ih_lp (40 - (i + 1)) (by omega) (i + 1) _ _ rfl (by omega) xw_44 mc sc pc kc ic bc lc oc xc ec uc ?_ ?_ ?_ (hO.trans (ow_44.mono (by omega) (by omega)))
        · exact (pk_un (by omega)).trans q0
        · intro j hj
          by_cases e : j = i
          · subst e; rw [pk_us]
          · exact (pk_un (by omega)).trans (q1 j (by omega))
        · intro q hq
          exact (pk_un (by omega)).trans (q2 q hq)
  refine r_lv [(2, .int (iI (((0 : Nat) : Int)))), (1, .int (iI (((D.length : Nat) : Int)))), (0, .ref mo)] [0, 1, 2] rfl ?_
  refine lp _ 0 _ _ rfl (Nat.zero_le _) xw_20 mc sc pc kc ic bc lc oc xc ec uc pk_us (fun j hj => absurd hj (Nat.not_lt_zero _)) (fun q hq => pk_un (by omega)) ((ow_1.mono (by omega) (by omega)).trans (ow_20.mono (by omega) (by omega)))
