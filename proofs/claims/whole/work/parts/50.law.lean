/-! the law -/
def lS (b L N0 : Nat) (xs : Nat → Int32) (nm : String) : PS := ((code, R_law, 4, ret, nm), room_1, (fun q => N0 ≤ q), fun _ below args s Z => args = #[Value.ref b] ∧ Z = lw_Z below #[Value.ref b] s ∧ va_X b L xs s s.heap ∧ b < s.heap.size ∧ N0 = s.heap.size)
theorem r_sld {S : PS} {b L N0 : Nat} {xs : Nat → Int32} {nm : String} {pc : Nat} {lv : List (Nat × Value)} {st : List Value} {w : PW} {n ce sl : Nat} {z : Int} (hS0 : S = lS b L N0 xs nm) (hL : L ≤ 2048) (q : Nat) (hd : decode code pc = .ok (.iaload, 1)) (hq : pc + 1 = q) (j : Nat) (hz : z = (j : Int)) (hj : j < L) (kk : Wp S q lv (.int (xs j) :: st) w n ce sl) : Wp S pc lv (.int (iI z) :: .ref b :: st) w n ce sl := by
  subst hS0; subst hq; subst hz
  intro D p l e s m args below meth c H locs ls Q hC hX hl hH hn hdm hs hS
  obtain ⟨har, hZ, hXX, hbl, hN⟩ := id hX
  have k := kk D p l e s m args below meth c H locs ls Q hC hX hl hH hn hdm hs hS
  refine va_sld hC.1 hC.2.1 hXX hbl (show ¬ (N0 ≤ b) by omega) hS (iI_vpin (N := L) (by omega) (by omega)) hd ?_
  rw [iI_clamp (by omega)]
  exact k
theorem r_slen {S : PS} {b L N0 : Nat} {xs : Nat → Int32} {nm : String} {pc : Nat} {lv : List (Nat × Value)} {st : List Value} {w : PW} {n ce sl : Nat} (hS0 : S = lS b L N0 xs nm) (q : Nat) (hd : decode code pc = .ok (.arraylength, 1)) (hq : pc + 1 = q) (kk : Wp S q lv (.int (iI ((L : Nat) : Int)) :: st) w n ce sl) : Wp S pc lv (.ref b :: st) w n ce sl := by
  subst hS0; subst hq
  intro D p l e s m args below meth c H locs ls Q hC hX hl hH hn hdm hs hS
  obtain ⟨har, hZ, hXX, hbl, hN⟩ := id hX
  refine va_slen hC.1 hC.2.1 hXX hbl (show ¬ (N0 ≤ b) by omega) hS hd ?_
  have k := kk D p l e s m args below meth c H locs ls Q hC hX hl hH hn hdm hs hS
  rw [iI_nat] at k
  exact k
theorem r_lwret {S : PS} {b L N0 : Nat} {xs : Nat → Int32} {nm : String} {pc : Nat} {lv : List (Nat × Value)} {w : PW} {n ce sl : Nat} (hS0 : S = lS b L N0 xs nm) (hd : decode code pc = .ok (.ireturn, 1)) (hce : ce ≤ 600000) (hsl : sl ≤ 7302249) : Wp S pc lv [.int (iI 1)] w n ce sl := by
  subst hS0
  intro D p l e s m args below meth c H locs ls Q hC hX hl hH hn hdm hs hS
  obtain ⟨har, hZ, hXX, hbl, hN⟩ := id hX
  subst har; subst hZ
  obtain ⟨hx, hcd, hml, hown, hts, hret, hnm, hlk, hK⟩ := id hC
  refine va_forget (fun q hq => by have := hS.2.2 q hq; have h2 : N0 ≤ q.base := this; omega) ?_
  refine W.widen (k := 600000) (n := 7302249) hce hsl ?_
  exact lw_ret hx hcd hret hlk hd
theorem r_tsw {S : PS} {cc : ByteArray} {pc : Nat} {lv : List (Nat × Value)} {st : List Value} {w : PW} {n ce sl : Nat} {dflt lo hi : Int} {offs : Array Int} {len : Nat} {x : Int32} {off : Int} (hb : S.1.1 = cc) (tgt : Nat) (hd : decode cc pc = .ok (.tableswitch dflt lo hi offs, len)) (k : Int) (hx : x.toInt = k) (h1 : lo ≤ k) (h2 : k ≤ hi) (ho : offs[(k - lo).toNat]? = some off) (ht : (pc : Int) + off = (tgt : Int)) (kk : Wp S tgt lv st w n ce sl) : Wp S pc lv (.int x :: st) w n ce sl := by
  intro D p l e s m args below meth c H locs ls Q hC hX hl hH hn hdm hs hS
  subst hb; subst hx
  exact lv_tableIn hC.1 hC.2.1 hd (by omega) (by omega) ho ht (kk D p l e s m args below meth c H locs ls Q hC hX hl hH hn hdm hs hS)
theorem r_tswO {S : PS} {cc : ByteArray} {pc : Nat} {lv : List (Nat × Value)} {st : List Value} {w : PW} {n ce sl : Nat} {dflt lo hi : Int} {offs : Array Int} {len : Nat} {x : Int32} (hb : S.1.1 = cc) (tgt : Nat) (hd : decode cc pc = .ok (.tableswitch dflt lo hi offs, len)) (hx : x.toInt < lo ∨ hi < x.toInt) (ht : (pc : Int) + dflt = (tgt : Int)) (kk : Wp S tgt lv st w n ce sl) : Wp S pc lv (.int x :: st) w n ce sl := by
  intro D p l e s m args below meth c H locs ls Q hC hX hl hH hn hdm hs hS
  subst hb
  exact lv_tableOut hC.1 hC.2.1 hd hx ht (kk D p l e s m args below meth c H locs ls Q hC hX hl hH hn hdm hs hS)
theorem lg_cmp_self (x : Int64) : lg_cmp x x = 0 := by unfold lg_cmp; simp
theorem xo.off {w w1 : PW} {a lo hi : Nat} {T : Fs} (h : xo w a T) (o : off w w1 lo hi) (d : a + 729 ≤ lo ∨ hi ≤ a) : xo w1 a T := by
  obtain ⟨xc, xB, xP, xH, xS0, xS1, ⟨b0, b1, b2, eh, xF⟩, ⟨ri, xR⟩, ⟨pc0, oh0, ch0, xL, xLc⟩, xA⟩ := h
  exact ⟨(o _ (by omega)).trans xc, xB.off o (by omega), xP.off o (by omega), xH.off o (by omega), xS0.off o (by omega), xS1.off o (by omega), ⟨_, _, _, _, xF.off o (by omega)⟩, ⟨_, xR.off o (by omega)⟩, ⟨_, _, _, xL.off o (by omega), xLc⟩, xA.off o (by omega)⟩
theorem mo_.off {w w1 : PW} {mo lo hi : Nat} {T : Fs} (h : mo_ w mo T) (o : off w w1 lo hi) (d : mo + 12 ≤ lo ∨ hi ≤ mo) : mo_ w1 mo T := by
  obtain ⟨rg, g, sp, pa, kp, ik, bg, ln, od, sco, leo, smo, mc, vc, sc, pc, kc, ic, bc, lc, oc, xc, ec, uc, hr⟩ := h
  exact ⟨rg, g, sp, pa, kp, ik, bg, ln, od, sco, leo, smo, (o _ (by omega)).trans mc, (o _ (by omega)).trans vc, (o _ (by omega)).trans sc, (o _ (by omega)).trans pc, (o _ (by omega)).trans kc, (o _ (by omega)).trans ic, (o _ (by omega)).trans bc, (o _ (by omega)).trans lc, (o _ (by omega)).trans oc, (o _ (by omega)).trans xc, (o _ (by omega)).trans ec, (o _ (by omega)).trans uc, hr⟩
theorem xo_cell {w : PW} {a : Nat} {T : Fs} (h : xo w a T) : w a = some (eO 8 [.ref (a + 1), .ref (a + 3), .ref (a + 77), .ref (a + 523), .ref (a + 598), .ref (a + 673), .ref (a + 675), .int (iI T.2.2.2.2.2)]) := h.1
theorem rd_length (B D : List Int32) (l : List Nt) (nx : Nat) (hs : List Pg) (s0 s1 : Option (Pg × Int)) (thr : Int)  : (oLen B D l nx hs s0 s1 thr ).2 = (B, (D, l, nx), hs, s0, s1, thr) := by
  unfold oLen
  repeat (first | rfl | split)
theorem rd_letter (B D : List Int32) (l : List Nt) (nx : Nat) (hs : List Pg) (s0 s1 : Option (Pg × Int)) (thr : Int) (z : Int) : (oLet B D l nx hs s0 s1 thr z).2 = (B, (D, l, nx), hs, s0, s1, thr) := by
  unfold oLet
  repeat (first | rfl | split)
theorem rd_comments (B D : List Int32) (l : List Nt) (nx : Nat) (hs : List Pg) (s0 s1 : Option (Pg × Int)) (thr : Int)  : (oCnt B D l nx hs s0 s1 thr ).2 = (B, (D, l, nx), hs, s0, s1, thr) := by
  unfold oCnt
  repeat (first | rfl | split)
theorem rd_commentAt (B D : List Int32) (l : List Nt) (nx : Nat) (hs : List Pg) (s0 s1 : Option (Pg × Int)) (thr : Int) (z : Int) : (oAt B D l nx hs s0 s1 thr z).2 = (B, (D, l, nx), hs, s0, s1, thr) := by
  unfold oAt
  repeat (first | rfl | split)
theorem rd_state (B D : List Int32) (l : List Nt) (nx : Nat) (hs : List Pg) (s0 s1 : Option (Pg × Int)) (thr : Int) (z : Int) : (oSta B D l nx hs s0 s1 thr z).2 = (B, (D, l, nx), hs, s0, s1, thr) := by
  unfold oSta
  repeat (first | rfl | split)
theorem rd_weight (B D : List Int32) (l : List Nt) (nx : Nat) (hs : List Pg) (s0 s1 : Option (Pg × Int)) (thr : Int) (z : Int) : (oWei B D l nx hs s0 s1 thr z).2 = (B, (D, l, nx), hs, s0, s1, thr) := by
  unfold oWei
  repeat (first | rfl | split)
theorem rd_quoted (B D : List Int32) (l : List Nt) (nx : Nat) (hs : List Pg) (s0 s1 : Option (Pg × Int)) (thr : Int) (z p i : Int) : (oQtd B D l nx hs s0 s1 thr z p i).2 = (B, (D, l, nx), hs, s0, s1, thr) := by
  unfold oQtd
  repeat (first | rfl | split)
theorem rd_distance (B D : List Int32) (l : List Nt) (nx : Nat) (hs : List Pg) (s0 s1 : Option (Pg × Int)) (thr : Int) (z : Int) : (oDis B D l nx hs s0 s1 thr z).2 = (B, (D, l, nx), hs, s0, s1, thr) := by
  unfold oDis
  repeat (first | rfl | split)
theorem rd_score (B D : List Int32) (l : List Nt) (nx : Nat) (hs : List Pg) (s0 s1 : Option (Pg × Int)) (thr : Int) (z f t : Int) : (oSco B D l nx hs s0 s1 thr z f t).2 = (B, (D, l, nx), hs, s0, s1, thr) := by
  unfold oSco
  repeat (first | rfl | split)
theorem rd_best (B D : List Int32) (l : List Nt) (nx : Nat) (hs : List Pg) (s0 s1 : Option (Pg × Int)) (thr : Int) (z k : Int) : (oBes B D l nx hs s0 s1 thr z k).2 = (B, (D, l, nx), hs, s0, s1, thr) := by
  unfold oBes
  repeat (first | rfl | split)
theorem rd_overlap (B D : List Int32) (l : List Nt) (nx : Nat) (hs : List Pg) (s0 s1 : Option (Pg × Int)) (thr : Int) (z y : Int) : (oOve B D l nx hs s0 s1 thr z y).2 = (B, (D, l, nx), hs, s0, s1, thr) := by
  unfold oOve
  repeat (first | rfl | split)
theorem rd_covering (B D : List Int32) (l : List Nt) (nx : Nat) (hs : List Pg) (s0 s1 : Option (Pg × Int)) (thr : Int) (z r : Int) : (oCov B D l nx hs s0 s1 thr z r).2 = (B, (D, l, nx), hs, s0, s1, thr) := by
  unfold oCov
  repeat (first | rfl | split)
theorem rd_range (B D : List Int32) (l : List Nt) (nx : Nat) (hs : List Pg) (s0 s1 : Option (Pg × Int)) (thr : Int) (z : Int) (b : Bool) : (oRan B D l nx hs s0 s1 thr z b).2 = (B, (D, l, nx), hs, s0, s1, thr) := by
  unfold oRan
  repeat (first | rfl | split)
theorem sOk_0 : sOk 0 ([], ([], [], 0), [], none, none, 60) := by
  refine ⟨⟨Nat.zero_le _, fun c hc => absurd hc List.not_mem_nil⟩, ⟨⟨Nat.zero_le _, fun c hc => absurd hc List.not_mem_nil, Nat.zero_le _, fun j hj => absurd hj (Nat.not_lt_zero _), fun i j _ hj => absurd hj (Nat.not_lt_zero _)⟩, Nat.le_refl _⟩, fun p hp => absurd hp List.not_mem_nil, (fun v hv => by cases hv), (fun v hv => by cases hv), ?_, ?_⟩ <;> decide
set_option maxHeartbeats 8000000 in
set_option maxRecDepth 100000 in
theorem law_wp {b L N0 : Nat} {xs : Nat → Int32} {nm : String} (hL : L ≤ 2048) (S : PS) (hS : S = lS b L N0 xs nm) : Wp S 0 [(0, .ref b)] [] (fun _ => none) N0 0 0 := by
  have hb : S.1.1 = cL_law := by rw [hS]; rfl
  have ho : S.1.2.1 = RL := by rw [hS]; rfl
  have hnL : S.1.2.2.1 = 4 := by rw [hS]; rfl
  have hR0 : S.2.1 = room_1 := by rw [hS]; rfl
  refine r_new hb ho 3 dL_law_0 rfl (kn_X8 kc_L_7) (by rw [hR0]; exact Nat.le_of_ble_eq_true rfl) (by rw [hR0]; exact Nat.le_of_ble_eq_true rfl) (fun w_0 hw_0 => ?_)
  have ow_0 := pset_off hw_0
  have fw_0 : w_0 N0 = some (eO 8 [.null, .null, .null, .null, .null, .null, .null, .int (iI 0)]) := by rw [hw_0]; exact pset_eq _ _ _
  refine r_dup hb 4 dL_law_3 rfl rfl ?_
  refine r_callN0 (st := [.ref N0]) hb ho 7 dL_law_4 rfl ck_L_9 (c_X8_init N0 fw_0) rfl rfl (by rw [hR0]; exact ⟨Nat.le_of_ble_eq_true rfl, Nat.le_of_ble_eq_true rfl⟩) (Nat.le_of_ble_eq_true rfl) (by rw [hR0]; exact Nat.le_of_ble_eq_true rfl) (by rw [hR0]; exact Nat.le_of_ble_eq_true rfl) (fun w_4 nw_4 qw_4 => ?_)
  obtain ⟨rfl, hX, ow_4⟩ := qw_4
  refine r_astore_n [(1, .ref N0), (0, .ref b)] hb 8 4 dL_law_7 rfl rfl hnL (by decide) rfl ?_
  refine r_new hb ho 11 dL_law_8 rfl (kn_X9 kc_L_10) (by rw [hR0]; exact Nat.le_of_ble_eq_true rfl) (by rw [hR0]; exact Nat.le_of_ble_eq_true rfl) (fun w_8 hw_8 => ?_)
  have ow_8 := pset_off hw_8
  have fw_8 : w_8 (N0 + 729) = some (eO 9 [.null, .null, .null, .int (iI 0), .null, .null, .int (iI 0), .null, .int (iI 0), .null, .int (iI 0), .int (iI 0), .int (iI 0), .int (iI 0), .int (iI 0), .null, .int (iI 0), .null, .null, .null]) := by rw [hw_8]; exact pset_eq _ _ _
  have hX := xo.off hX ow_8 (by omega)
  refine r_dup hb 12 dL_law_11 rfl rfl ?_
  refine r_callN0 (st := [.ref ((N0 + 729))]) hb ho 15 dL_law_12 rfl ck_L_12 (c_X9_init (N0 + 729) fw_8) rfl rfl (by rw [hR0]; exact ⟨Nat.le_of_ble_eq_true rfl, Nat.le_of_ble_eq_true rfl⟩) (Nat.le_of_ble_eq_true rfl) (by rw [hR0]; exact Nat.le_of_ble_eq_true rfl) (by rw [hR0]; exact Nat.le_of_ble_eq_true rfl) (fun w_12 nw_12 qw_12 => ?_)
  obtain ⟨rfl, hM, ow_12⟩ := qw_12
  have hX := xo.off hX ow_12 (by omega)
  refine r_astore_n [(2, .ref ((N0 + 729))), (1, .ref N0), (0, .ref b)] hb 16 4 dL_law_15 rfl rfl hnL (by decide) rfl ?_
  refine r_iconst hb 17 dL_law_16 rfl ?_
  refine r_istore_n [(3, .int (iI 0)), (2, .ref ((N0 + 729))), (1, .ref N0), (0, .ref b)] hb 18 4 dL_law_17 rfl rfl hnL (by decide) rfl ?_
  have lp : ∀ (d : Nat) (k : Nat) (wi : PW) (T : Fs), 600 - k = d → (k ≤ 513) → (xo wi N0 T) → (mo_ wi (N0 + 729) T) → (sOk k T) → Wp S 18 [(3, .int (iI (4 * ((k : Nat) : Int)))), (2, .ref (N0 + 729)), (1, .ref N0), (0, .ref b)] [] wi (N0 + 729 + 12) 741 99999 := by
    intro d
    induction d using Nat.strongRecOn with
    | _ d ih_lp =>
      intro k wi T hd_lp hk hX hM hsk
      obtain ⟨B, ⟨D, l, nx⟩, hs, s0, s1, thr⟩ := T
      have hok : pOk (D, l, nx) := hsk.2.1.1
      have hnk : nx ≤ k := hsk.2.1.2
      have ht : 0 ≤ thr ∧ thr ≤ 108 := hsk.2.2.2.2.2
      refine r_iload_n hb 19 dL_law_18 rfl 0 rfl ?_
      refine r_aload_n hb 20 dL_law_19 rfl 3 rfl ?_
      refine r_slen hS 21 dL_law_20 rfl ?_
      refine r_iconst hb 22 dL_law_21 rfl ?_
      refine r_isubZ hb 23 (((L : Nat) : Int) - 4) dL_law_22 rfl (by omega) ?_
      refine r_icmp_gt hb 26 874 dL_law_23 rfl (by decide) (by omega) (by omega) (fun c23 => ?_) (fun c23 => ?_)
      · refine r_iconst hb 875 dL_law_874 rfl ?_
        exact r_lwret hS dL_law_875 (by decide) (by decide)
      · refine r_aload_n hb 27 dL_law_26 rfl 3 rfl ?_
        refine r_iload_n hb 28 dL_law_27 rfl 0 rfl ?_
        refine r_sld hS hL 29 dL_law_28 rfl (4 * k) (by omega) (by omega) ?_
        refine r_bipush 31 hb 31 dL_law_29 rfl rfl ?_
        refine r_iand hb 32 dL_law_31 rfl ?_
        by_cases hout : (((xs (4 * k)) &&& (iI 31))).toInt < 0 ∨ 28 < (((xs (4 * k)) &&& (iI 31))).toInt
        · refine r_tswO hb 868 dL_law_32 hout (by decide) ?_
          refine r_iinc [(3, .int (iI (4 * ((k : Nat) : Int) + 4))), (2, .ref (N0 + 729)), (1, .ref N0), (0, .ref b)] hb 871 4 0 dL_law_868 rfl rfl hnL (by decide) (4 * ((k : Nat) : Int) + 4) (by omega) rfl ?_
          refine r_goto hb 18 dL_law_871 (by decide) ?_
          refine r_lv [(3, .int (iI (4 * ((k + 1 : Nat) : Int)))), (2, .ref (N0 + 729)), (1, .ref N0), (0, .ref b)] [0, 1, 2, 3] (congrArg (fun zz : Int => ([(3, .int (iI zz)), (2, .ref (N0 + 729)), (1, .ref N0), (0, .ref b)] : List (Nat × Value))) (show (4 * ((k : Nat) : Int) + 4) = (4 * ((k + 1 : Nat) : Int)) from by omega)) ?_
          exact ih_lp (600 - (k + 1)) (by omega) (k + 1) _ ((B, (D, l, nx), hs, s0, s1, thr)) rfl (by omega) hX hM (hsk.up (Nat.le_succ k))
        · rcases (show (((xs (4 * k)) &&& (iI 31))).toInt = 0 ∨ (((xs (4 * k)) &&& (iI 31))).toInt = 1 ∨ (((xs (4 * k)) &&& (iI 31))).toInt = 2 ∨ (((xs (4 * k)) &&& (iI 31))).toInt = 3 ∨ (((xs (4 * k)) &&& (iI 31))).toInt = 4 ∨ (((xs (4 * k)) &&& (iI 31))).toInt = 5 ∨ (((xs (4 * k)) &&& (iI 31))).toInt = 6 ∨ (((xs (4 * k)) &&& (iI 31))).toInt = 7 ∨ (((xs (4 * k)) &&& (iI 31))).toInt = 8 ∨ (((xs (4 * k)) &&& (iI 31))).toInt = 9 ∨ (((xs (4 * k)) &&& (iI 31))).toInt = 10 ∨ (((xs (4 * k)) &&& (iI 31))).toInt = 11 ∨ (((xs (4 * k)) &&& (iI 31))).toInt = 12 ∨ (((xs (4 * k)) &&& (iI 31))).toInt = 13 ∨ (((xs (4 * k)) &&& (iI 31))).toInt = 14 ∨ (((xs (4 * k)) &&& (iI 31))).toInt = 15 ∨ (((xs (4 * k)) &&& (iI 31))).toInt = 16 ∨ (((xs (4 * k)) &&& (iI 31))).toInt = 17 ∨ (((xs (4 * k)) &&& (iI 31))).toInt = 18 ∨ (((xs (4 * k)) &&& (iI 31))).toInt = 19 ∨ (((xs (4 * k)) &&& (iI 31))).toInt = 20 ∨ (((xs (4 * k)) &&& (iI 31))).toInt = 21 ∨ (((xs (4 * k)) &&& (iI 31))).toInt = 22 ∨ (((xs (4 * k)) &&& (iI 31))).toInt = 23 ∨ (((xs (4 * k)) &&& (iI 31))).toInt = 24 ∨ (((xs (4 * k)) &&& (iI 31))).toInt = 25 ∨ (((xs (4 * k)) &&& (iI 31))).toInt = 26 ∨ (((xs (4 * k)) &&& (iI 31))).toInt = 27 ∨ (((xs (4 * k)) &&& (iI 31))).toInt = 28 from by omega) with hk0 | hk1 | hk2 | hk3 | hk4 | hk5 | hk6 | hk7 | hk8 | hk9 | hk10 | hk11 | hk12 | hk13 | hk14 | hk15 | hk16 | hk17 | hk18 | hk19 | hk20 | hk21 | hk22 | hk23 | hk24 | hk25 | hk26 | hk27 | hk28
          · refine r_tsw hb 164 dL_law_32 0 hk0 (by decide) (by decide) rfl (by decide) ?_
            refine r_aload_n hb 165 dL_law_164 rfl 2 rfl ?_
            refine r_aload_n hb 166 dL_law_165 rfl 3 rfl ?_
            refine r_iload_n hb 167 dL_law_166 rfl 0 rfl ?_
            refine r_iconst hb 168 dL_law_167 rfl ?_
            refine r_iaddZ hb 169 (4 * ((k : Nat) : Int) + 1) dL_law_168 rfl (by omega) ?_
            refine r_sld hS hL 170 dL_law_169 rfl (4 * k + 1) (by omega) (by omega) ?_
            refine r_topz ((xs (4 * k + 1)).toInt) (iI_of _).symm ?_
            have hbz169 := iI_bd (xs (4 * k + 1))
            refine r_callV1 (st := []) hb ho 173 dL_law_170 rfl ck_L_13 (c_X8_type N0 B D l nx hs s0 s1 thr (((xs (4 * k + 1)).toInt)) hX (iI_bd _)) rfl rfl ((xo_cell (T := (B, (D, l, nx), hs, s0, s1, thr)) hX)) rfl rfl (by rw [hR0]; exact ⟨Nat.le_of_ble_eq_true rfl, Nat.le_of_ble_eq_true rfl⟩) (Nat.le_of_ble_eq_true rfl) ⟨rfl, rfl⟩ (by rw [hR0]; exact Nat.le_of_ble_eq_true rfl) (by rw [hR0]; exact Nat.le_of_ble_eq_true rfl) (fun vw_170 w_170 nw_170 qw_170 => ?_)
            obtain ⟨rfl, rfl, hX, ow_170⟩ := qw_170
            have hM : mo_ w_170 (N0 + 729) (B, (D, l, nx), hs, s0, s1, thr) := mo_.off hM ow_170 (by omega)
            have hMm := hM
            obtain ⟨rg, g, sp, pa, kp, ik, bg, ln, od, sco, leo, smo, mcM, -⟩ := hMm
            refine r_aload_n hb 174 dL_law_173 rfl 1 rfl ?_
            refine r_aload_n hb 175 dL_law_174 rfl 3 rfl ?_
            refine r_iload_n hb 176 dL_law_175 rfl 0 rfl ?_
            refine r_iconst hb 177 dL_law_176 rfl ?_
            refine r_iaddZ hb 178 (4 * ((k : Nat) : Int) + 1) dL_law_177 rfl (by omega) ?_
            refine r_sld hS hL 179 dL_law_178 rfl (4 * k + 1) (by omega) (by omega) ?_
            refine r_topz ((xs (4 * k + 1)).toInt) (iI_of _).symm ?_
            have hbz178 := iI_bd (xs (4 * k + 1))
            refine r_callV1 (st := [.int ((oType B D l nx hs s0 s1 thr (((xs (4 * k + 1)).toInt))).1)]) hb ho 182 dL_law_179 rfl ck_L_17 (c_X9_type (N0 + 729) B D l nx hs s0 s1 thr (((xs (4 * k + 1)).toInt)) hM (iI_bd _)) rfl rfl (mcM) rfl rfl (by rw [hR0]; exact ⟨Nat.le_of_ble_eq_true rfl, Nat.le_of_ble_eq_true rfl⟩) (Nat.le_of_ble_eq_true rfl) ⟨rfl, rfl⟩ (by rw [hR0]; exact Nat.le_of_ble_eq_true rfl) (by rw [hR0]; exact Nat.le_of_ble_eq_true rfl) (fun vw_179 w_179 nw_179 qw_179 => ?_)
            obtain ⟨rfl, rfl, hM, ow_179⟩ := qw_179
            have hX := xo.off hX ow_179 (by omega)
            refine r_icmpR_eq hb 185 868 dL_law_182 rfl (by decide) (fun c182 => ?_) (fun c182 => ?_)
            · refine r_iinc [(3, .int (iI (4 * ((k : Nat) : Int) + 4))), (2, .ref (N0 + 729)), (1, .ref N0), (0, .ref b)] hb 871 4 0 dL_law_868 rfl rfl hnL (by decide) (4 * ((k : Nat) : Int) + 4) (by omega) rfl ?_
              refine r_goto hb 18 dL_law_871 (by decide) ?_
              refine r_lv [(3, .int (iI (4 * ((k + 1 : Nat) : Int)))), (2, .ref (N0 + 729)), (1, .ref N0), (0, .ref b)] [0, 1, 2, 3] (congrArg (fun zz : Int => ([(3, .int (iI zz)), (2, .ref (N0 + 729)), (1, .ref N0), (0, .ref b)] : List (Nat × Value))) (show (4 * ((k : Nat) : Int) + 4) = (4 * ((k + 1 : Nat) : Int)) from by omega)) ?_
              exact ih_lp (600 - (k + 1)) (by omega) (k + 1) _ ((oType B D l nx hs s0 s1 thr (((xs (4 * k + 1)).toInt))).2) rfl (by omega) hX hM (ok_type hsk (((xs (4 * k + 1)).toInt)))
            · exact absurd rfl c182
          · refine r_tsw hb 187 dL_law_32 1 hk1 (by decide) (by decide) rfl (by decide) ?_
            refine r_aload_n hb 188 dL_law_187 rfl 2 rfl ?_
            refine r_callV1 (st := []) hb ho 191 dL_law_188 rfl ck_L_18 (c_X8_clearBuffer N0 B D l nx hs s0 s1 thr  hX) rfl rfl ((xo_cell (T := (B, (D, l, nx), hs, s0, s1, thr)) hX)) rfl rfl (by rw [hR0]; exact ⟨Nat.le_of_ble_eq_true rfl, Nat.le_of_ble_eq_true rfl⟩) (Nat.le_of_ble_eq_true rfl) ⟨rfl, rfl⟩ (by rw [hR0]; exact Nat.le_of_ble_eq_true rfl) (by rw [hR0]; exact Nat.le_of_ble_eq_true rfl) (fun vw_188 w_188 nw_188 qw_188 => ?_)
            obtain ⟨rfl, rfl, hX, ow_188⟩ := qw_188
            have hM : mo_ w_188 (N0 + 729) (B, (D, l, nx), hs, s0, s1, thr) := mo_.off hM ow_188 (by omega)
            have hMm := hM
            obtain ⟨rg, g, sp, pa, kp, ik, bg, ln, od, sco, leo, smo, mcM, -⟩ := hMm
            refine r_aload_n hb 192 dL_law_191 rfl 1 rfl ?_
            refine r_callV1 (st := [.int ((oClear B D l nx hs s0 s1 thr ).1)]) hb ho 195 dL_law_192 rfl ck_L_22 (c_X9_clearBuffer (N0 + 729) B D l nx hs s0 s1 thr  hM) rfl rfl (mcM) rfl rfl (by rw [hR0]; exact ⟨Nat.le_of_ble_eq_true rfl, Nat.le_of_ble_eq_true rfl⟩) (Nat.le_of_ble_eq_true rfl) ⟨rfl, rfl⟩ (by rw [hR0]; exact Nat.le_of_ble_eq_true rfl) (by rw [hR0]; exact Nat.le_of_ble_eq_true rfl) (fun vw_192 w_192 nw_192 qw_192 => ?_)
            obtain ⟨rfl, rfl, hM, ow_192⟩ := qw_192
            have hX := xo.off hX ow_192 (by omega)
            refine r_icmpR_eq hb 198 868 dL_law_195 rfl (by decide) (fun c195 => ?_) (fun c195 => ?_)
            · refine r_iinc [(3, .int (iI (4 * ((k : Nat) : Int) + 4))), (2, .ref (N0 + 729)), (1, .ref N0), (0, .ref b)] hb 871 4 0 dL_law_868 rfl rfl hnL (by decide) (4 * ((k : Nat) : Int) + 4) (by omega) rfl ?_
              refine r_goto hb 18 dL_law_871 (by decide) ?_
              refine r_lv [(3, .int (iI (4 * ((k + 1 : Nat) : Int)))), (2, .ref (N0 + 729)), (1, .ref N0), (0, .ref b)] [0, 1, 2, 3] (congrArg (fun zz : Int => ([(3, .int (iI zz)), (2, .ref (N0 + 729)), (1, .ref N0), (0, .ref b)] : List (Nat × Value))) (show (4 * ((k : Nat) : Int) + 4) = (4 * ((k + 1 : Nat) : Int)) from by omega)) ?_
              exact ih_lp (600 - (k + 1)) (by omega) (k + 1) _ ((oClear B D l nx hs s0 s1 thr ).2) rfl (by omega) hX hM (ok_clear hsk)
            · exact absurd rfl c195
          · refine r_tsw hb 200 dL_law_32 2 hk2 (by decide) (by decide) rfl (by decide) ?_
            refine r_aload_n hb 201 dL_law_200 rfl 2 rfl ?_
            refine r_callV1 (st := []) hb ho 204 dL_law_201 rfl ck_L_23 (c_X8_load N0 B D l nx hs s0 s1 thr  hX hok) rfl rfl ((xo_cell (T := (B, (D, l, nx), hs, s0, s1, thr)) hX)) rfl rfl (by rw [hR0]; exact ⟨Nat.le_of_ble_eq_true rfl, Nat.le_of_ble_eq_true rfl⟩) (Nat.le_of_ble_eq_true rfl) ⟨rfl, rfl⟩ (by rw [hR0]; exact Nat.le_of_ble_eq_true rfl) (by rw [hR0]; exact Nat.le_of_ble_eq_true rfl) (fun vw_201 w_201 nw_201 qw_201 => ?_)
            obtain ⟨rfl, rfl, hX, ow_201⟩ := qw_201
            have hM : mo_ w_201 (N0 + 729) (B, (D, l, nx), hs, s0, s1, thr) := mo_.off hM ow_201 (by omega)
            have hMm := hM
            obtain ⟨rg, g, sp, pa, kp, ik, bg, ln, od, sco, leo, smo, mcM, -⟩ := hMm
            refine r_aload_n hb 205 dL_law_204 rfl 1 rfl ?_
            refine r_callV1 (st := [.int ((oLoad B D l nx hs s0 s1 thr ).1)]) hb ho 208 dL_law_205 rfl ck_L_26 (c_X9_load (N0 + 729) B D l nx hs s0 s1 thr  hM hok) rfl rfl (mcM) rfl rfl (by rw [hR0]; exact ⟨Nat.le_of_ble_eq_true rfl, Nat.le_of_ble_eq_true rfl⟩) (Nat.le_of_ble_eq_true rfl) ⟨rfl, rfl⟩ (by rw [hR0]; exact Nat.le_of_ble_eq_true rfl) (by rw [hR0]; exact Nat.le_of_ble_eq_true rfl) (fun vw_205 w_205 nw_205 qw_205 => ?_)
            obtain ⟨rfl, rfl, hM, ow_205⟩ := qw_205
            have hX := xo.off hX ow_205 (by omega)
            refine r_icmpR_eq hb 211 868 dL_law_208 rfl (by decide) (fun c208 => ?_) (fun c208 => ?_)
            · refine r_iinc [(3, .int (iI (4 * ((k : Nat) : Int) + 4))), (2, .ref (N0 + 729)), (1, .ref N0), (0, .ref b)] hb 871 4 0 dL_law_868 rfl rfl hnL (by decide) (4 * ((k : Nat) : Int) + 4) (by omega) rfl ?_
              refine r_goto hb 18 dL_law_871 (by decide) ?_
              refine r_lv [(3, .int (iI (4 * ((k + 1 : Nat) : Int)))), (2, .ref (N0 + 729)), (1, .ref N0), (0, .ref b)] [0, 1, 2, 3] (congrArg (fun zz : Int => ([(3, .int (iI zz)), (2, .ref (N0 + 729)), (1, .ref N0), (0, .ref b)] : List (Nat × Value))) (show (4 * ((k : Nat) : Int) + 4) = (4 * ((k + 1 : Nat) : Int)) from by omega)) ?_
              exact ih_lp (600 - (k + 1)) (by omega) (k + 1) _ ((oLoad B D l nx hs s0 s1 thr ).2) rfl (by omega) hX hM (ok_load hsk)
            · exact absurd rfl c208
          · refine r_tsw hb 213 dL_law_32 3 hk3 (by decide) (by decide) rfl (by decide) ?_
            refine r_aload_n hb 214 dL_law_213 rfl 2 rfl ?_
            refine r_aload_n hb 215 dL_law_214 rfl 3 rfl ?_
            refine r_iload_n hb 216 dL_law_215 rfl 0 rfl ?_
            refine r_iconst hb 217 dL_law_216 rfl ?_
            refine r_iaddZ hb 218 (4 * ((k : Nat) : Int) + 1) dL_law_217 rfl (by omega) ?_
            refine r_sld hS hL 219 dL_law_218 rfl (4 * k + 1) (by omega) (by omega) ?_
            refine r_topz ((xs (4 * k + 1)).toInt) (iI_of _).symm ?_
            have hbz218 := iI_bd (xs (4 * k + 1))
            refine r_callV1 (st := []) hb ho 222 dL_law_219 rfl ck_L_27 (c_X8_insert N0 B D l nx hs s0 s1 thr (((xs (4 * k + 1)).toInt)) hX (iI_bd _) hok) rfl rfl ((xo_cell (T := (B, (D, l, nx), hs, s0, s1, thr)) hX)) rfl rfl (by rw [hR0]; exact ⟨Nat.le_of_ble_eq_true rfl, Nat.le_of_ble_eq_true rfl⟩) (Nat.le_of_ble_eq_true rfl) ⟨rfl, rfl⟩ (by rw [hR0]; exact Nat.le_of_ble_eq_true rfl) (by rw [hR0]; exact Nat.le_of_ble_eq_true rfl) (fun vw_219 w_219 nw_219 qw_219 => ?_)
            obtain ⟨rfl, rfl, hX, ow_219⟩ := qw_219
            have hM : mo_ w_219 (N0 + 729) (B, (D, l, nx), hs, s0, s1, thr) := mo_.off hM ow_219 (by omega)
            have hMm := hM
            obtain ⟨rg, g, sp, pa, kp, ik, bg, ln, od, sco, leo, smo, mcM, -⟩ := hMm
            refine r_aload_n hb 223 dL_law_222 rfl 1 rfl ?_
            refine r_aload_n hb 224 dL_law_223 rfl 3 rfl ?_
            refine r_iload_n hb 225 dL_law_224 rfl 0 rfl ?_
            refine r_iconst hb 226 dL_law_225 rfl ?_
            refine r_iaddZ hb 227 (4 * ((k : Nat) : Int) + 1) dL_law_226 rfl (by omega) ?_
            refine r_sld hS hL 228 dL_law_227 rfl (4 * k + 1) (by omega) (by omega) ?_
            refine r_topz ((xs (4 * k + 1)).toInt) (iI_of _).symm ?_
            have hbz227 := iI_bd (xs (4 * k + 1))
            refine r_callV1 (st := [.int ((oIns B D l nx hs s0 s1 thr (((xs (4 * k + 1)).toInt))).1)]) hb ho 231 dL_law_228 rfl ck_L_30 (c_X9_insert (N0 + 729) B D l nx hs s0 s1 thr (((xs (4 * k + 1)).toInt)) hM (iI_bd _) hok) rfl rfl (mcM) rfl rfl (by rw [hR0]; exact ⟨Nat.le_of_ble_eq_true rfl, Nat.le_of_ble_eq_true rfl⟩) (Nat.le_of_ble_eq_true rfl) ⟨rfl, rfl⟩ (by rw [hR0]; exact Nat.le_of_ble_eq_true rfl) (by rw [hR0]; exact Nat.le_of_ble_eq_true rfl) (fun vw_228 w_228 nw_228 qw_228 => ?_)
            obtain ⟨rfl, rfl, hM, ow_228⟩ := qw_228
            have hX := xo.off hX ow_228 (by omega)
            refine r_icmpR_eq hb 234 868 dL_law_231 rfl (by decide) (fun c231 => ?_) (fun c231 => ?_)
            · refine r_iinc [(3, .int (iI (4 * ((k : Nat) : Int) + 4))), (2, .ref (N0 + 729)), (1, .ref N0), (0, .ref b)] hb 871 4 0 dL_law_868 rfl rfl hnL (by decide) (4 * ((k : Nat) : Int) + 4) (by omega) rfl ?_
              refine r_goto hb 18 dL_law_871 (by decide) ?_
              refine r_lv [(3, .int (iI (4 * ((k + 1 : Nat) : Int)))), (2, .ref (N0 + 729)), (1, .ref N0), (0, .ref b)] [0, 1, 2, 3] (congrArg (fun zz : Int => ([(3, .int (iI zz)), (2, .ref (N0 + 729)), (1, .ref N0), (0, .ref b)] : List (Nat × Value))) (show (4 * ((k : Nat) : Int) + 4) = (4 * ((k + 1 : Nat) : Int)) from by omega)) ?_
              exact ih_lp (600 - (k + 1)) (by omega) (k + 1) _ ((oIns B D l nx hs s0 s1 thr (((xs (4 * k + 1)).toInt))).2) rfl (by omega) hX hM (ok_ins hsk (((xs (4 * k + 1)).toInt)))
            · exact absurd rfl c231
          · refine r_tsw hb 236 dL_law_32 4 hk4 (by decide) (by decide) rfl (by decide) ?_
            refine r_aload_n hb 237 dL_law_236 rfl 2 rfl ?_
            refine r_aload_n hb 238 dL_law_237 rfl 3 rfl ?_
            refine r_iload_n hb 239 dL_law_238 rfl 0 rfl ?_
            refine r_iconst hb 240 dL_law_239 rfl ?_
            refine r_iaddZ hb 241 (4 * ((k : Nat) : Int) + 1) dL_law_240 rfl (by omega) ?_
            refine r_sld hS hL 242 dL_law_241 rfl (4 * k + 1) (by omega) (by omega) ?_
            refine r_topz ((xs (4 * k + 1)).toInt) (iI_of _).symm ?_
            have hbz241 := iI_bd (xs (4 * k + 1))
            refine r_aload_n hb 243 dL_law_242 rfl 3 rfl ?_
            refine r_iload_n hb 244 dL_law_243 rfl 0 rfl ?_
            refine r_iconst hb 245 dL_law_244 rfl ?_
            refine r_iaddZ hb 246 (4 * ((k : Nat) : Int) + 2) dL_law_245 rfl (by omega) ?_
            refine r_sld hS hL 247 dL_law_246 rfl (4 * k + 2) (by omega) (by omega) ?_
            refine r_topz ((xs (4 * k + 2)).toInt) (iI_of _).symm ?_
            have hbz246 := iI_bd (xs (4 * k + 2))
            refine r_callV1 (st := []) hb ho 250 dL_law_247 rfl ck_L_31 (c_X8_delete N0 B D l nx hs s0 s1 thr (((xs (4 * k + 1)).toInt)) (((xs (4 * k + 2)).toInt)) hX (iI_bd _) (iI_bd _)) rfl rfl ((xo_cell (T := (B, (D, l, nx), hs, s0, s1, thr)) hX)) rfl rfl (by rw [hR0]; exact ⟨Nat.le_of_ble_eq_true rfl, Nat.le_of_ble_eq_true rfl⟩) (Nat.le_of_ble_eq_true rfl) ⟨rfl, rfl⟩ (by rw [hR0]; exact Nat.le_of_ble_eq_true rfl) (by rw [hR0]; exact Nat.le_of_ble_eq_true rfl) (fun vw_247 w_247 nw_247 qw_247 => ?_)
            obtain ⟨rfl, rfl, hX, ow_247⟩ := qw_247
            have hM : mo_ w_247 (N0 + 729) (B, (D, l, nx), hs, s0, s1, thr) := mo_.off hM ow_247 (by omega)
            have hMm := hM
            obtain ⟨rg, g, sp, pa, kp, ik, bg, ln, od, sco, leo, smo, mcM, -⟩ := hMm
            refine r_aload_n hb 251 dL_law_250 rfl 1 rfl ?_
            refine r_aload_n hb 252 dL_law_251 rfl 3 rfl ?_
            refine r_iload_n hb 253 dL_law_252 rfl 0 rfl ?_
            refine r_iconst hb 254 dL_law_253 rfl ?_
            refine r_iaddZ hb 255 (4 * ((k : Nat) : Int) + 1) dL_law_254 rfl (by omega) ?_
            refine r_sld hS hL 256 dL_law_255 rfl (4 * k + 1) (by omega) (by omega) ?_
            refine r_topz ((xs (4 * k + 1)).toInt) (iI_of _).symm ?_
            have hbz255 := iI_bd (xs (4 * k + 1))
            refine r_aload_n hb 257 dL_law_256 rfl 3 rfl ?_
            refine r_iload_n hb 258 dL_law_257 rfl 0 rfl ?_
            refine r_iconst hb 259 dL_law_258 rfl ?_
            refine r_iaddZ hb 260 (4 * ((k : Nat) : Int) + 2) dL_law_259 rfl (by omega) ?_
            refine r_sld hS hL 261 dL_law_260 rfl (4 * k + 2) (by omega) (by omega) ?_
            refine r_topz ((xs (4 * k + 2)).toInt) (iI_of _).symm ?_
            have hbz260 := iI_bd (xs (4 * k + 2))
            refine r_callV1 (st := [.int ((oDel B D l nx hs s0 s1 thr (((xs (4 * k + 1)).toInt)) (((xs (4 * k + 2)).toInt))).1)]) hb ho 264 dL_law_261 rfl ck_L_35 (c_X9_delete (N0 + 729) B D l nx hs s0 s1 thr (((xs (4 * k + 1)).toInt)) (((xs (4 * k + 2)).toInt)) hM (iI_bd _) (iI_bd _) hok) rfl rfl (mcM) rfl rfl (by rw [hR0]; exact ⟨Nat.le_of_ble_eq_true rfl, Nat.le_of_ble_eq_true rfl⟩) (Nat.le_of_ble_eq_true rfl) ⟨rfl, rfl⟩ (by rw [hR0]; exact Nat.le_of_ble_eq_true rfl) (by rw [hR0]; exact Nat.le_of_ble_eq_true rfl) (fun vw_261 w_261 nw_261 qw_261 => ?_)
            obtain ⟨rfl, rfl, hM, ow_261⟩ := qw_261
            have hX := xo.off hX ow_261 (by omega)
            refine r_icmpR_eq hb 267 868 dL_law_264 rfl (by decide) (fun c264 => ?_) (fun c264 => ?_)
            · refine r_iinc [(3, .int (iI (4 * ((k : Nat) : Int) + 4))), (2, .ref (N0 + 729)), (1, .ref N0), (0, .ref b)] hb 871 4 0 dL_law_868 rfl rfl hnL (by decide) (4 * ((k : Nat) : Int) + 4) (by omega) rfl ?_
              refine r_goto hb 18 dL_law_871 (by decide) ?_
              refine r_lv [(3, .int (iI (4 * ((k + 1 : Nat) : Int)))), (2, .ref (N0 + 729)), (1, .ref N0), (0, .ref b)] [0, 1, 2, 3] (congrArg (fun zz : Int => ([(3, .int (iI zz)), (2, .ref (N0 + 729)), (1, .ref N0), (0, .ref b)] : List (Nat × Value))) (show (4 * ((k : Nat) : Int) + 4) = (4 * ((k + 1 : Nat) : Int)) from by omega)) ?_
              exact ih_lp (600 - (k + 1)) (by omega) (k + 1) _ ((oDel B D l nx hs s0 s1 thr (((xs (4 * k + 1)).toInt)) (((xs (4 * k + 2)).toInt))).2) rfl (by omega) hX hM (ok_del hsk (((xs (4 * k + 1)).toInt)) (((xs (4 * k + 2)).toInt)))
            · exact absurd rfl c264
          · refine r_tsw hb 269 dL_law_32 5 hk5 (by decide) (by decide) rfl (by decide) ?_
            refine r_aload_n hb 270 dL_law_269 rfl 2 rfl ?_
            refine r_aload_n hb 271 dL_law_270 rfl 3 rfl ?_
            refine r_iload_n hb 272 dL_law_271 rfl 0 rfl ?_
            refine r_iconst hb 273 dL_law_272 rfl ?_
            refine r_iaddZ hb 274 (4 * ((k : Nat) : Int) + 1) dL_law_273 rfl (by omega) ?_
            refine r_sld hS hL 275 dL_law_274 rfl (4 * k + 1) (by omega) (by omega) ?_
            refine r_topz ((xs (4 * k + 1)).toInt) (iI_of _).symm ?_
            have hbz274 := iI_bd (xs (4 * k + 1))
            refine r_aload_n hb 276 dL_law_275 rfl 3 rfl ?_
            refine r_iload_n hb 277 dL_law_276 rfl 0 rfl ?_
            refine r_iconst hb 278 dL_law_277 rfl ?_
            refine r_iaddZ hb 279 (4 * ((k : Nat) : Int) + 2) dL_law_278 rfl (by omega) ?_
            refine r_sld hS hL 280 dL_law_279 rfl (4 * k + 2) (by omega) (by omega) ?_
            refine r_topz ((xs (4 * k + 2)).toInt) (iI_of _).symm ?_
            have hbz279 := iI_bd (xs (4 * k + 2))
            refine r_callV1 (st := []) hb ho 283 dL_law_280 rfl ck_L_36 (c_X8_comment N0 B D l nx hs s0 s1 thr (((xs (4 * k + 1)).toInt)) (((xs (4 * k + 2)).toInt)) hX (iI_bd _) (iI_bd _) (by omega)) rfl rfl ((xo_cell (T := (B, (D, l, nx), hs, s0, s1, thr)) hX)) rfl rfl (by rw [hR0]; exact ⟨Nat.le_of_ble_eq_true rfl, Nat.le_of_ble_eq_true rfl⟩) (Nat.le_of_ble_eq_true rfl) ⟨rfl, rfl⟩ (by rw [hR0]; exact Nat.le_of_ble_eq_true rfl) (by rw [hR0]; exact Nat.le_of_ble_eq_true rfl) (fun vw_280 w_280 nw_280 qw_280 => ?_)
            obtain ⟨rfl, rfl, hX, ow_280⟩ := qw_280
            have hM : mo_ w_280 (N0 + 729) (B, (D, l, nx), hs, s0, s1, thr) := mo_.off hM ow_280 (by omega)
            have hMm := hM
            obtain ⟨rg, g, sp, pa, kp, ik, bg, ln, od, sco, leo, smo, mcM, -⟩ := hMm
            refine r_aload_n hb 284 dL_law_283 rfl 1 rfl ?_
            refine r_aload_n hb 285 dL_law_284 rfl 3 rfl ?_
            refine r_iload_n hb 286 dL_law_285 rfl 0 rfl ?_
            refine r_iconst hb 287 dL_law_286 rfl ?_
            refine r_iaddZ hb 288 (4 * ((k : Nat) : Int) + 1) dL_law_287 rfl (by omega) ?_
            refine r_sld hS hL 289 dL_law_288 rfl (4 * k + 1) (by omega) (by omega) ?_
            refine r_topz ((xs (4 * k + 1)).toInt) (iI_of _).symm ?_
            have hbz288 := iI_bd (xs (4 * k + 1))
            refine r_aload_n hb 290 dL_law_289 rfl 3 rfl ?_
            refine r_iload_n hb 291 dL_law_290 rfl 0 rfl ?_
            refine r_iconst hb 292 dL_law_291 rfl ?_
            refine r_iaddZ hb 293 (4 * ((k : Nat) : Int) + 2) dL_law_292 rfl (by omega) ?_
            refine r_sld hS hL 294 dL_law_293 rfl (4 * k + 2) (by omega) (by omega) ?_
            refine r_topz ((xs (4 * k + 2)).toInt) (iI_of _).symm ?_
            have hbz293 := iI_bd (xs (4 * k + 2))
            refine r_callV1 (st := [.int ((oCom B D l nx hs s0 s1 thr (((xs (4 * k + 1)).toInt)) (((xs (4 * k + 2)).toInt))).1)]) hb ho 297 dL_law_294 rfl ck_L_39 (c_X9_comment (N0 + 729) B D l nx hs s0 s1 thr (((xs (4 * k + 1)).toInt)) (((xs (4 * k + 2)).toInt)) hM (iI_bd _) (iI_bd _) (by omega)) rfl rfl (mcM) rfl rfl (by rw [hR0]; exact ⟨Nat.le_of_ble_eq_true rfl, Nat.le_of_ble_eq_true rfl⟩) (Nat.le_of_ble_eq_true rfl) ⟨rfl, rfl⟩ (by rw [hR0]; exact Nat.le_of_ble_eq_true rfl) (by rw [hR0]; exact Nat.le_of_ble_eq_true rfl) (fun vw_294 w_294 nw_294 qw_294 => ?_)
            obtain ⟨rfl, rfl, hM, ow_294⟩ := qw_294
            have hX := xo.off hX ow_294 (by omega)
            refine r_icmpR_eq hb 300 868 dL_law_297 rfl (by decide) (fun c297 => ?_) (fun c297 => ?_)
            · refine r_iinc [(3, .int (iI (4 * ((k : Nat) : Int) + 4))), (2, .ref (N0 + 729)), (1, .ref N0), (0, .ref b)] hb 871 4 0 dL_law_868 rfl rfl hnL (by decide) (4 * ((k : Nat) : Int) + 4) (by omega) rfl ?_
              refine r_goto hb 18 dL_law_871 (by decide) ?_
              refine r_lv [(3, .int (iI (4 * ((k + 1 : Nat) : Int)))), (2, .ref (N0 + 729)), (1, .ref N0), (0, .ref b)] [0, 1, 2, 3] (congrArg (fun zz : Int => ([(3, .int (iI zz)), (2, .ref (N0 + 729)), (1, .ref N0), (0, .ref b)] : List (Nat × Value))) (show (4 * ((k : Nat) : Int) + 4) = (4 * ((k + 1 : Nat) : Int)) from by omega)) ?_
              exact ih_lp (600 - (k + 1)) (by omega) (k + 1) _ ((oCom B D l nx hs s0 s1 thr (((xs (4 * k + 1)).toInt)) (((xs (4 * k + 2)).toInt))).2) rfl (by omega) hX hM (ok_com hsk (((xs (4 * k + 1)).toInt)) (((xs (4 * k + 2)).toInt)))
            · exact absurd rfl c297
          · refine r_tsw hb 302 dL_law_32 6 hk6 (by decide) (by decide) rfl (by decide) ?_
            refine r_aload_n hb 303 dL_law_302 rfl 2 rfl ?_
            refine r_aload_n hb 304 dL_law_303 rfl 3 rfl ?_
            refine r_iload_n hb 305 dL_law_304 rfl 0 rfl ?_
            refine r_iconst hb 306 dL_law_305 rfl ?_
            refine r_iaddZ hb 307 (4 * ((k : Nat) : Int) + 1) dL_law_306 rfl (by omega) ?_
            refine r_sld hS hL 308 dL_law_307 rfl (4 * k + 1) (by omega) (by omega) ?_
            refine r_topz ((xs (4 * k + 1)).toInt) (iI_of _).symm ?_
            have hbz307 := iI_bd (xs (4 * k + 1))
            refine r_callV1 (st := []) hb ho 311 dL_law_308 rfl ck_L_40 (c_X8_remove N0 B D l nx hs s0 s1 thr (((xs (4 * k + 1)).toInt)) hX (iI_bd _)) rfl rfl ((xo_cell (T := (B, (D, l, nx), hs, s0, s1, thr)) hX)) rfl rfl (by rw [hR0]; exact ⟨Nat.le_of_ble_eq_true rfl, Nat.le_of_ble_eq_true rfl⟩) (Nat.le_of_ble_eq_true rfl) ⟨rfl, rfl⟩ (by rw [hR0]; exact Nat.le_of_ble_eq_true rfl) (by rw [hR0]; exact Nat.le_of_ble_eq_true rfl) (fun vw_308 w_308 nw_308 qw_308 => ?_)
            obtain ⟨rfl, rfl, hX, ow_308⟩ := qw_308
            have hM : mo_ w_308 (N0 + 729) (B, (D, l, nx), hs, s0, s1, thr) := mo_.off hM ow_308 (by omega)
            have hMm := hM
            obtain ⟨rg, g, sp, pa, kp, ik, bg, ln, od, sco, leo, smo, mcM, -⟩ := hMm
            refine r_aload_n hb 312 dL_law_311 rfl 1 rfl ?_
            refine r_aload_n hb 313 dL_law_312 rfl 3 rfl ?_
            refine r_iload_n hb 314 dL_law_313 rfl 0 rfl ?_
            refine r_iconst hb 315 dL_law_314 rfl ?_
            refine r_iaddZ hb 316 (4 * ((k : Nat) : Int) + 1) dL_law_315 rfl (by omega) ?_
            refine r_sld hS hL 317 dL_law_316 rfl (4 * k + 1) (by omega) (by omega) ?_
            refine r_topz ((xs (4 * k + 1)).toInt) (iI_of _).symm ?_
            have hbz316 := iI_bd (xs (4 * k + 1))
            refine r_callV1 (st := [.int ((oRem B D l nx hs s0 s1 thr (((xs (4 * k + 1)).toInt))).1)]) hb ho 320 dL_law_317 rfl ck_L_43 (c_X9_remove (N0 + 729) B D l nx hs s0 s1 thr (((xs (4 * k + 1)).toInt)) hM (iI_bd _)) rfl rfl (mcM) rfl rfl (by rw [hR0]; exact ⟨Nat.le_of_ble_eq_true rfl, Nat.le_of_ble_eq_true rfl⟩) (Nat.le_of_ble_eq_true rfl) ⟨rfl, rfl⟩ (by rw [hR0]; exact Nat.le_of_ble_eq_true rfl) (by rw [hR0]; exact Nat.le_of_ble_eq_true rfl) (fun vw_317 w_317 nw_317 qw_317 => ?_)
            obtain ⟨rfl, rfl, hM, ow_317⟩ := qw_317
            have hX := xo.off hX ow_317 (by omega)
            refine r_icmpR_eq hb 323 868 dL_law_320 rfl (by decide) (fun c320 => ?_) (fun c320 => ?_)
            · refine r_iinc [(3, .int (iI (4 * ((k : Nat) : Int) + 4))), (2, .ref (N0 + 729)), (1, .ref N0), (0, .ref b)] hb 871 4 0 dL_law_868 rfl rfl hnL (by decide) (4 * ((k : Nat) : Int) + 4) (by omega) rfl ?_
              refine r_goto hb 18 dL_law_871 (by decide) ?_
              refine r_lv [(3, .int (iI (4 * ((k + 1 : Nat) : Int)))), (2, .ref (N0 + 729)), (1, .ref N0), (0, .ref b)] [0, 1, 2, 3] (congrArg (fun zz : Int => ([(3, .int (iI zz)), (2, .ref (N0 + 729)), (1, .ref N0), (0, .ref b)] : List (Nat × Value))) (show (4 * ((k : Nat) : Int) + 4) = (4 * ((k + 1 : Nat) : Int)) from by omega)) ?_
              exact ih_lp (600 - (k + 1)) (by omega) (k + 1) _ ((oRem B D l nx hs s0 s1 thr (((xs (4 * k + 1)).toInt))).2) rfl (by omega) hX hM (ok_rem hsk (((xs (4 * k + 1)).toInt)))
            · exact absurd rfl c320
          · refine r_tsw hb 325 dL_law_32 7 hk7 (by decide) (by decide) rfl (by decide) ?_
            refine r_aload_n hb 326 dL_law_325 rfl 2 rfl ?_
            refine r_aload_n hb 327 dL_law_326 rfl 3 rfl ?_
            refine r_iload_n hb 328 dL_law_327 rfl 0 rfl ?_
            refine r_iconst hb 329 dL_law_328 rfl ?_
            refine r_iaddZ hb 330 (4 * ((k : Nat) : Int) + 1) dL_law_329 rfl (by omega) ?_
            refine r_sld hS hL 331 dL_law_330 rfl (4 * k + 1) (by omega) (by omega) ?_
            refine r_topz ((xs (4 * k + 1)).toInt) (iI_of _).symm ?_
            have hbz330 := iI_bd (xs (4 * k + 1))
            refine r_callV1 (st := []) hb ho 334 dL_law_331 rfl ck_L_44 (c_X8_quoteAnew N0 B D l nx hs s0 s1 thr (((xs (4 * k + 1)).toInt)) hX (iI_bd _)) rfl rfl ((xo_cell (T := (B, (D, l, nx), hs, s0, s1, thr)) hX)) rfl rfl (by rw [hR0]; exact ⟨Nat.le_of_ble_eq_true rfl, Nat.le_of_ble_eq_true rfl⟩) (Nat.le_of_ble_eq_true rfl) ⟨rfl, rfl⟩ (by rw [hR0]; exact Nat.le_of_ble_eq_true rfl) (by rw [hR0]; exact Nat.le_of_ble_eq_true rfl) (fun vw_331 w_331 nw_331 qw_331 => ?_)
            obtain ⟨rfl, rfl, hX, ow_331⟩ := qw_331
            have hM : mo_ w_331 (N0 + 729) (B, (D, l, nx), hs, s0, s1, thr) := mo_.off hM ow_331 (by omega)
            have hMm := hM
            obtain ⟨rg, g, sp, pa, kp, ik, bg, ln, od, sco, leo, smo, mcM, -⟩ := hMm
            refine r_aload_n hb 335 dL_law_334 rfl 1 rfl ?_
            refine r_aload_n hb 336 dL_law_335 rfl 3 rfl ?_
            refine r_iload_n hb 337 dL_law_336 rfl 0 rfl ?_
            refine r_iconst hb 338 dL_law_337 rfl ?_
            refine r_iaddZ hb 339 (4 * ((k : Nat) : Int) + 1) dL_law_338 rfl (by omega) ?_
            refine r_sld hS hL 340 dL_law_339 rfl (4 * k + 1) (by omega) (by omega) ?_
            refine r_topz ((xs (4 * k + 1)).toInt) (iI_of _).symm ?_
            have hbz339 := iI_bd (xs (4 * k + 1))
            refine r_callV1 (st := [.int ((oQuo B D l nx hs s0 s1 thr (((xs (4 * k + 1)).toInt))).1)]) hb ho 343 dL_law_340 rfl ck_L_47 (c_X9_quoteAnew (N0 + 729) B D l nx hs s0 s1 thr (((xs (4 * k + 1)).toInt)) hM (iI_bd _) hok) rfl rfl (mcM) rfl rfl (by rw [hR0]; exact ⟨Nat.le_of_ble_eq_true rfl, Nat.le_of_ble_eq_true rfl⟩) (Nat.le_of_ble_eq_true rfl) ⟨rfl, rfl⟩ (by rw [hR0]; exact Nat.le_of_ble_eq_true rfl) (by rw [hR0]; exact Nat.le_of_ble_eq_true rfl) (fun vw_340 w_340 nw_340 qw_340 => ?_)
            obtain ⟨rfl, rfl, hM, ow_340⟩ := qw_340
            have hX := xo.off hX ow_340 (by omega)
            refine r_icmpR_eq hb 346 868 dL_law_343 rfl (by decide) (fun c343 => ?_) (fun c343 => ?_)
            · refine r_iinc [(3, .int (iI (4 * ((k : Nat) : Int) + 4))), (2, .ref (N0 + 729)), (1, .ref N0), (0, .ref b)] hb 871 4 0 dL_law_868 rfl rfl hnL (by decide) (4 * ((k : Nat) : Int) + 4) (by omega) rfl ?_
              refine r_goto hb 18 dL_law_871 (by decide) ?_
              refine r_lv [(3, .int (iI (4 * ((k + 1 : Nat) : Int)))), (2, .ref (N0 + 729)), (1, .ref N0), (0, .ref b)] [0, 1, 2, 3] (congrArg (fun zz : Int => ([(3, .int (iI zz)), (2, .ref (N0 + 729)), (1, .ref N0), (0, .ref b)] : List (Nat × Value))) (show (4 * ((k : Nat) : Int) + 4) = (4 * ((k + 1 : Nat) : Int)) from by omega)) ?_
              exact ih_lp (600 - (k + 1)) (by omega) (k + 1) _ ((oQuo B D l nx hs s0 s1 thr (((xs (4 * k + 1)).toInt))).2) rfl (by omega) hX hM (ok_quo hsk (((xs (4 * k + 1)).toInt)))
            · exact absurd rfl c343
          · refine r_tsw hb 348 dL_law_32 8 hk8 (by decide) (by decide) rfl (by decide) ?_
            refine r_aload_n hb 349 dL_law_348 rfl 2 rfl ?_
            refine r_aload_n hb 350 dL_law_349 rfl 3 rfl ?_
            refine r_iload_n hb 351 dL_law_350 rfl 0 rfl ?_
            refine r_iconst hb 352 dL_law_351 rfl ?_
            refine r_iaddZ hb 353 (4 * ((k : Nat) : Int) + 1) dL_law_352 rfl (by omega) ?_
            refine r_sld hS hL 354 dL_law_353 rfl (4 * k + 1) (by omega) (by omega) ?_
            refine r_topz ((xs (4 * k + 1)).toInt) (iI_of _).symm ?_
            have hbz353 := iI_bd (xs (4 * k + 1))
            refine r_callV1 (st := []) hb ho 357 dL_law_354 rfl ck_L_48 (c_X8_attach N0 B D l nx hs s0 s1 thr (((xs (4 * k + 1)).toInt)) hX (iI_bd _) hok ht) rfl rfl ((xo_cell (T := (B, (D, l, nx), hs, s0, s1, thr)) hX)) rfl rfl (by rw [hR0]; exact ⟨Nat.le_of_ble_eq_true rfl, Nat.le_of_ble_eq_true rfl⟩) (Nat.le_of_ble_eq_true rfl) ⟨rfl, rfl⟩ (by rw [hR0]; exact Nat.le_of_ble_eq_true rfl) (by rw [hR0]; exact Nat.le_of_ble_eq_true rfl) (fun vw_354 w_354 nw_354 qw_354 => ?_)
            obtain ⟨rfl, rfl, hX, ow_354⟩ := qw_354
            have hM : mo_ w_354 (N0 + 729) (B, (D, l, nx), hs, s0, s1, thr) := mo_.off hM ow_354 (by omega)
            have hMm := hM
            obtain ⟨rg, g, sp, pa, kp, ik, bg, ln, od, sco, leo, smo, mcM, -⟩ := hMm
            refine r_aload_n hb 358 dL_law_357 rfl 1 rfl ?_
            refine r_aload_n hb 359 dL_law_358 rfl 3 rfl ?_
            refine r_iload_n hb 360 dL_law_359 rfl 0 rfl ?_
            refine r_iconst hb 361 dL_law_360 rfl ?_
            refine r_iaddZ hb 362 (4 * ((k : Nat) : Int) + 1) dL_law_361 rfl (by omega) ?_
            refine r_sld hS hL 363 dL_law_362 rfl (4 * k + 1) (by omega) (by omega) ?_
            refine r_topz ((xs (4 * k + 1)).toInt) (iI_of _).symm ?_
            have hbz362 := iI_bd (xs (4 * k + 1))
            refine r_callV1 (st := [.int ((oAtt B D l nx hs s0 s1 thr (((xs (4 * k + 1)).toInt))).1)]) hb ho 366 dL_law_363 rfl ck_L_51 (c_X9_attach (N0 + 729) B D l nx hs s0 s1 thr (((xs (4 * k + 1)).toInt)) hM (iI_bd _) hok ht) rfl rfl (mcM) rfl rfl (by rw [hR0]; exact ⟨Nat.le_of_ble_eq_true rfl, Nat.le_of_ble_eq_true rfl⟩) (Nat.le_of_ble_eq_true rfl) ⟨rfl, rfl⟩ (by rw [hR0]; exact Nat.le_of_ble_eq_true rfl) (by rw [hR0]; exact Nat.le_of_ble_eq_true rfl) (fun vw_363 w_363 nw_363 qw_363 => ?_)
            obtain ⟨rfl, rfl, hM, ow_363⟩ := qw_363
            have hX := xo.off hX ow_363 (by omega)
            refine r_icmpR_eq hb 369 868 dL_law_366 rfl (by decide) (fun c366 => ?_) (fun c366 => ?_)
            · refine r_iinc [(3, .int (iI (4 * ((k : Nat) : Int) + 4))), (2, .ref (N0 + 729)), (1, .ref N0), (0, .ref b)] hb 871 4 0 dL_law_868 rfl rfl hnL (by decide) (4 * ((k : Nat) : Int) + 4) (by omega) rfl ?_
              refine r_goto hb 18 dL_law_871 (by decide) ?_
              refine r_lv [(3, .int (iI (4 * ((k + 1 : Nat) : Int)))), (2, .ref (N0 + 729)), (1, .ref N0), (0, .ref b)] [0, 1, 2, 3] (congrArg (fun zz : Int => ([(3, .int (iI zz)), (2, .ref (N0 + 729)), (1, .ref N0), (0, .ref b)] : List (Nat × Value))) (show (4 * ((k : Nat) : Int) + 4) = (4 * ((k + 1 : Nat) : Int)) from by omega)) ?_
              exact ih_lp (600 - (k + 1)) (by omega) (k + 1) _ ((oAtt B D l nx hs s0 s1 thr (((xs (4 * k + 1)).toInt))).2) rfl (by omega) hX hM (ok_att hsk (((xs (4 * k + 1)).toInt)))
            · exact absurd rfl c366
          · refine r_tsw hb 371 dL_law_32 9 hk9 (by decide) (by decide) rfl (by decide) ?_
            refine r_aload_n hb 372 dL_law_371 rfl 2 rfl ?_
            refine r_callV1 (st := []) hb ho 375 dL_law_372 rfl ck_L_52 (c_X8_attachAll N0 B D l nx hs s0 s1 thr  hX hok ht) rfl rfl ((xo_cell (T := (B, (D, l, nx), hs, s0, s1, thr)) hX)) rfl rfl (by rw [hR0]; exact ⟨Nat.le_of_ble_eq_true rfl, Nat.le_of_ble_eq_true rfl⟩) (Nat.le_of_ble_eq_true rfl) ⟨rfl, rfl⟩ (by rw [hR0]; exact Nat.le_of_ble_eq_true rfl) (by rw [hR0]; exact Nat.le_of_ble_eq_true rfl) (fun vw_372 w_372 nw_372 qw_372 => ?_)
            obtain ⟨rfl, rfl, hX, ow_372⟩ := qw_372
            have hM : mo_ w_372 (N0 + 729) (B, (D, l, nx), hs, s0, s1, thr) := mo_.off hM ow_372 (by omega)
            have hMm := hM
            obtain ⟨rg, g, sp, pa, kp, ik, bg, ln, od, sco, leo, smo, mcM, -⟩ := hMm
            refine r_aload_n hb 376 dL_law_375 rfl 1 rfl ?_
            refine r_callV1 (st := [.int ((oAll B D l nx hs s0 s1 thr ).1)]) hb ho 379 dL_law_376 rfl ck_L_55 (c_X9_attachAll (N0 + 729) B D l nx hs s0 s1 thr  hM hok ht) rfl rfl (mcM) rfl rfl (by rw [hR0]; exact ⟨Nat.le_of_ble_eq_true rfl, Nat.le_of_ble_eq_true rfl⟩) (Nat.le_of_ble_eq_true rfl) ⟨rfl, rfl⟩ (by rw [hR0]; exact Nat.le_of_ble_eq_true rfl) (by rw [hR0]; exact Nat.le_of_ble_eq_true rfl) (fun vw_376 w_376 nw_376 qw_376 => ?_)
            obtain ⟨rfl, rfl, hM, ow_376⟩ := qw_376
            have hX := xo.off hX ow_376 (by omega)
            refine r_icmpR_eq hb 382 868 dL_law_379 rfl (by decide) (fun c379 => ?_) (fun c379 => ?_)
            · refine r_iinc [(3, .int (iI (4 * ((k : Nat) : Int) + 4))), (2, .ref (N0 + 729)), (1, .ref N0), (0, .ref b)] hb 871 4 0 dL_law_868 rfl rfl hnL (by decide) (4 * ((k : Nat) : Int) + 4) (by omega) rfl ?_
              refine r_goto hb 18 dL_law_871 (by decide) ?_
              refine r_lv [(3, .int (iI (4 * ((k + 1 : Nat) : Int)))), (2, .ref (N0 + 729)), (1, .ref N0), (0, .ref b)] [0, 1, 2, 3] (congrArg (fun zz : Int => ([(3, .int (iI zz)), (2, .ref (N0 + 729)), (1, .ref N0), (0, .ref b)] : List (Nat × Value))) (show (4 * ((k : Nat) : Int) + 4) = (4 * ((k + 1 : Nat) : Int)) from by omega)) ?_
              exact ih_lp (600 - (k + 1)) (by omega) (k + 1) _ ((oAll B D l nx hs s0 s1 thr ).2) rfl (by omega) hX hM (ok_all hsk)
            · exact absurd rfl c379
          · refine r_tsw hb 384 dL_law_32 10 hk10 (by decide) (by decide) rfl (by decide) ?_
            refine r_aload_n hb 385 dL_law_384 rfl 2 rfl ?_
            refine r_callV1 (st := []) hb ho 388 dL_law_385 rfl ck_L_56 (c_X8_merge N0 B D l nx hs s0 s1 thr  hX) rfl rfl ((xo_cell (T := (B, (D, l, nx), hs, s0, s1, thr)) hX)) rfl rfl (by rw [hR0]; exact ⟨Nat.le_of_ble_eq_true rfl, Nat.le_of_ble_eq_true rfl⟩) (Nat.le_of_ble_eq_true rfl) ⟨rfl, rfl⟩ (by rw [hR0]; exact Nat.le_of_ble_eq_true rfl) (by rw [hR0]; exact Nat.le_of_ble_eq_true rfl) (fun vw_385 w_385 nw_385 qw_385 => ?_)
            obtain ⟨rfl, rfl, hX, ow_385⟩ := qw_385
            have hM : mo_ w_385 (N0 + 729) (B, (D, l, nx), hs, s0, s1, thr) := mo_.off hM ow_385 (by omega)
            have hMm := hM
            obtain ⟨rg, g, sp, pa, kp, ik, bg, ln, od, sco, leo, smo, mcM, -⟩ := hMm
            refine r_aload_n hb 389 dL_law_388 rfl 1 rfl ?_
            refine r_callV1 (st := [.int ((oMer B D l nx hs s0 s1 thr ).1)]) hb ho 392 dL_law_389 rfl ck_L_59 (c_X9_merge (N0 + 729) B D l nx hs s0 s1 thr  hM) rfl rfl (mcM) rfl rfl (by rw [hR0]; exact ⟨Nat.le_of_ble_eq_true rfl, Nat.le_of_ble_eq_true rfl⟩) (Nat.le_of_ble_eq_true rfl) ⟨rfl, rfl⟩ (by rw [hR0]; exact Nat.le_of_ble_eq_true rfl) (by rw [hR0]; exact Nat.le_of_ble_eq_true rfl) (fun vw_389 w_389 nw_389 qw_389 => ?_)
            obtain ⟨rfl, rfl, hM, ow_389⟩ := qw_389
            have hX := xo.off hX ow_389 (by omega)
            refine r_icmpR_eq hb 395 868 dL_law_392 rfl (by decide) (fun c392 => ?_) (fun c392 => ?_)
            · refine r_iinc [(3, .int (iI (4 * ((k : Nat) : Int) + 4))), (2, .ref (N0 + 729)), (1, .ref N0), (0, .ref b)] hb 871 4 0 dL_law_868 rfl rfl hnL (by decide) (4 * ((k : Nat) : Int) + 4) (by omega) rfl ?_
              refine r_goto hb 18 dL_law_871 (by decide) ?_
              refine r_lv [(3, .int (iI (4 * ((k + 1 : Nat) : Int)))), (2, .ref (N0 + 729)), (1, .ref N0), (0, .ref b)] [0, 1, 2, 3] (congrArg (fun zz : Int => ([(3, .int (iI zz)), (2, .ref (N0 + 729)), (1, .ref N0), (0, .ref b)] : List (Nat × Value))) (show (4 * ((k : Nat) : Int) + 4) = (4 * ((k + 1 : Nat) : Int)) from by omega)) ?_
              exact ih_lp (600 - (k + 1)) (by omega) (k + 1) _ ((oMer B D l nx hs s0 s1 thr ).2) rfl (by omega) hX hM (ok_mer hsk)
            · exact absurd rfl c392
          · refine r_tsw hb 397 dL_law_32 11 hk11 (by decide) (by decide) rfl (by decide) ?_
            refine r_aload_n hb 398 dL_law_397 rfl 2 rfl ?_
            refine r_callV1 (st := []) hb ho 401 dL_law_398 rfl ck_L_60 (c_X8_undo N0 B D l nx hs s0 s1 thr  hX) rfl rfl ((xo_cell (T := (B, (D, l, nx), hs, s0, s1, thr)) hX)) rfl rfl (by rw [hR0]; exact ⟨Nat.le_of_ble_eq_true rfl, Nat.le_of_ble_eq_true rfl⟩) (Nat.le_of_ble_eq_true rfl) ⟨rfl, rfl⟩ (by rw [hR0]; exact Nat.le_of_ble_eq_true rfl) (by rw [hR0]; exact Nat.le_of_ble_eq_true rfl) (fun vw_398 w_398 nw_398 qw_398 => ?_)
            obtain ⟨rfl, rfl, hX, ow_398⟩ := qw_398
            have hM : mo_ w_398 (N0 + 729) (B, (D, l, nx), hs, s0, s1, thr) := mo_.off hM ow_398 (by omega)
            have hMm := hM
            obtain ⟨rg, g, sp, pa, kp, ik, bg, ln, od, sco, leo, smo, mcM, -⟩ := hMm
            refine r_aload_n hb 402 dL_law_401 rfl 1 rfl ?_
            refine r_callV1 (st := [.int ((oUndo B D l nx hs s0 s1 thr ).1)]) hb ho 405 dL_law_402 rfl ck_L_63 (c_X9_undo (N0 + 729) B D l nx hs s0 s1 thr  hM) rfl rfl (mcM) rfl rfl (by rw [hR0]; exact ⟨Nat.le_of_ble_eq_true rfl, Nat.le_of_ble_eq_true rfl⟩) (Nat.le_of_ble_eq_true rfl) ⟨rfl, rfl⟩ (by rw [hR0]; exact Nat.le_of_ble_eq_true rfl) (by rw [hR0]; exact Nat.le_of_ble_eq_true rfl) (fun vw_402 w_402 nw_402 qw_402 => ?_)
            obtain ⟨rfl, rfl, hM, ow_402⟩ := qw_402
            have hX := xo.off hX ow_402 (by omega)
            refine r_icmpR_eq hb 408 868 dL_law_405 rfl (by decide) (fun c405 => ?_) (fun c405 => ?_)
            · refine r_iinc [(3, .int (iI (4 * ((k : Nat) : Int) + 4))), (2, .ref (N0 + 729)), (1, .ref N0), (0, .ref b)] hb 871 4 0 dL_law_868 rfl rfl hnL (by decide) (4 * ((k : Nat) : Int) + 4) (by omega) rfl ?_
              refine r_goto hb 18 dL_law_871 (by decide) ?_
              refine r_lv [(3, .int (iI (4 * ((k + 1 : Nat) : Int)))), (2, .ref (N0 + 729)), (1, .ref N0), (0, .ref b)] [0, 1, 2, 3] (congrArg (fun zz : Int => ([(3, .int (iI zz)), (2, .ref (N0 + 729)), (1, .ref N0), (0, .ref b)] : List (Nat × Value))) (show (4 * ((k : Nat) : Int) + 4) = (4 * ((k + 1 : Nat) : Int)) from by omega)) ?_
              exact ih_lp (600 - (k + 1)) (by omega) (k + 1) _ ((oUndo B D l nx hs s0 s1 thr ).2) rfl (by omega) hX hM (ok_undo hsk)
            · exact absurd rfl c405
          · refine r_tsw hb 410 dL_law_32 12 hk12 (by decide) (by decide) rfl (by decide) ?_
            refine r_aload_n hb 411 dL_law_410 rfl 2 rfl ?_
            refine r_callV1 (st := []) hb ho 414 dL_law_411 rfl ck_L_64 (c_X8_length N0 B D l nx hs s0 s1 thr  hX) rfl rfl ((xo_cell (T := (B, (D, l, nx), hs, s0, s1, thr)) hX)) rfl rfl (by rw [hR0]; exact ⟨Nat.le_of_ble_eq_true rfl, Nat.le_of_ble_eq_true rfl⟩) (Nat.le_of_ble_eq_true rfl) ⟨rfl, rfl⟩ (by rw [hR0]; exact Nat.le_of_ble_eq_true rfl) (by rw [hR0]; exact Nat.le_of_ble_eq_true rfl) (fun vw_411 w_411 nw_411 qw_411 => ?_)
            obtain ⟨rfl, rfl, hX, ow_411⟩ := qw_411
            have hM : mo_ w_411 (N0 + 729) (B, (D, l, nx), hs, s0, s1, thr) := mo_.off hM ow_411 (by omega)
            have hMm := hM
            obtain ⟨rg, g, sp, pa, kp, ik, bg, ln, od, sco, leo, smo, mcM, -⟩ := hMm
            refine r_aload_n hb 415 dL_law_414 rfl 1 rfl ?_
            refine r_callV1 (st := [.int ((oLen B D l nx hs s0 s1 thr ).1)]) hb ho 418 dL_law_415 rfl ck_L_67 (c_X9_length (N0 + 729) B D l nx hs s0 s1 thr  hM) rfl rfl (mcM) rfl rfl (by rw [hR0]; exact ⟨Nat.le_of_ble_eq_true rfl, Nat.le_of_ble_eq_true rfl⟩) (Nat.le_of_ble_eq_true rfl) ⟨rfl, rfl⟩ (by rw [hR0]; exact Nat.le_of_ble_eq_true rfl) (by rw [hR0]; exact Nat.le_of_ble_eq_true rfl) (fun vw_415 w_415 nw_415 qw_415 => ?_)
            obtain ⟨rfl, rfl, hM, ow_415⟩ := qw_415
            have hX := xo.off hX ow_415 (by omega)
            refine r_icmpR_eq hb 421 868 dL_law_418 rfl (by decide) (fun c418 => ?_) (fun c418 => ?_)
            · refine r_iinc [(3, .int (iI (4 * ((k : Nat) : Int) + 4))), (2, .ref (N0 + 729)), (1, .ref N0), (0, .ref b)] hb 871 4 0 dL_law_868 rfl rfl hnL (by decide) (4 * ((k : Nat) : Int) + 4) (by omega) rfl ?_
              refine r_goto hb 18 dL_law_871 (by decide) ?_
              refine r_lv [(3, .int (iI (4 * ((k + 1 : Nat) : Int)))), (2, .ref (N0 + 729)), (1, .ref N0), (0, .ref b)] [0, 1, 2, 3] (congrArg (fun zz : Int => ([(3, .int (iI zz)), (2, .ref (N0 + 729)), (1, .ref N0), (0, .ref b)] : List (Nat × Value))) (show (4 * ((k : Nat) : Int) + 4) = (4 * ((k + 1 : Nat) : Int)) from by omega)) ?_
              exact ih_lp (600 - (k + 1)) (by omega) (k + 1) _ ((oLen B D l nx hs s0 s1 thr ).2) rfl (by omega) hX hM (by rw [rd_length]; exact hsk.up (Nat.le_succ k))
            · exact absurd rfl c418
          · refine r_tsw hb 423 dL_law_32 13 hk13 (by decide) (by decide) rfl (by decide) ?_
            refine r_aload_n hb 424 dL_law_423 rfl 2 rfl ?_
            refine r_aload_n hb 425 dL_law_424 rfl 3 rfl ?_
            refine r_iload_n hb 426 dL_law_425 rfl 0 rfl ?_
            refine r_iconst hb 427 dL_law_426 rfl ?_
            refine r_iaddZ hb 428 (4 * ((k : Nat) : Int) + 1) dL_law_427 rfl (by omega) ?_
            refine r_sld hS hL 429 dL_law_428 rfl (4 * k + 1) (by omega) (by omega) ?_
            refine r_topz ((xs (4 * k + 1)).toInt) (iI_of _).symm ?_
            have hbz428 := iI_bd (xs (4 * k + 1))
            refine r_callV1 (st := []) hb ho 432 dL_law_429 rfl ck_L_68 (c_X8_letter N0 B D l nx hs s0 s1 thr (((xs (4 * k + 1)).toInt)) hX (iI_bd _)) rfl rfl ((xo_cell (T := (B, (D, l, nx), hs, s0, s1, thr)) hX)) rfl rfl (by rw [hR0]; exact ⟨Nat.le_of_ble_eq_true rfl, Nat.le_of_ble_eq_true rfl⟩) (Nat.le_of_ble_eq_true rfl) ⟨rfl, rfl⟩ (by rw [hR0]; exact Nat.le_of_ble_eq_true rfl) (by rw [hR0]; exact Nat.le_of_ble_eq_true rfl) (fun vw_429 w_429 nw_429 qw_429 => ?_)
            obtain ⟨rfl, rfl, hX, ow_429⟩ := qw_429
            have hM : mo_ w_429 (N0 + 729) (B, (D, l, nx), hs, s0, s1, thr) := mo_.off hM ow_429 (by omega)
            have hMm := hM
            obtain ⟨rg, g, sp, pa, kp, ik, bg, ln, od, sco, leo, smo, mcM, -⟩ := hMm
            refine r_aload_n hb 433 dL_law_432 rfl 1 rfl ?_
            refine r_aload_n hb 434 dL_law_433 rfl 3 rfl ?_
            refine r_iload_n hb 435 dL_law_434 rfl 0 rfl ?_
            refine r_iconst hb 436 dL_law_435 rfl ?_
            refine r_iaddZ hb 437 (4 * ((k : Nat) : Int) + 1) dL_law_436 rfl (by omega) ?_
            refine r_sld hS hL 438 dL_law_437 rfl (4 * k + 1) (by omega) (by omega) ?_
            refine r_topz ((xs (4 * k + 1)).toInt) (iI_of _).symm ?_
            have hbz437 := iI_bd (xs (4 * k + 1))
            refine r_callV1 (st := [.int ((oLet B D l nx hs s0 s1 thr (((xs (4 * k + 1)).toInt))).1)]) hb ho 441 dL_law_438 rfl ck_L_71 (c_X9_letter (N0 + 729) B D l nx hs s0 s1 thr (((xs (4 * k + 1)).toInt)) hM (iI_bd _)) rfl rfl (mcM) rfl rfl (by rw [hR0]; exact ⟨Nat.le_of_ble_eq_true rfl, Nat.le_of_ble_eq_true rfl⟩) (Nat.le_of_ble_eq_true rfl) ⟨rfl, rfl⟩ (by rw [hR0]; exact Nat.le_of_ble_eq_true rfl) (by rw [hR0]; exact Nat.le_of_ble_eq_true rfl) (fun vw_438 w_438 nw_438 qw_438 => ?_)
            obtain ⟨rfl, rfl, hM, ow_438⟩ := qw_438
            have hX := xo.off hX ow_438 (by omega)
            refine r_icmpR_eq hb 444 868 dL_law_441 rfl (by decide) (fun c441 => ?_) (fun c441 => ?_)
            · refine r_iinc [(3, .int (iI (4 * ((k : Nat) : Int) + 4))), (2, .ref (N0 + 729)), (1, .ref N0), (0, .ref b)] hb 871 4 0 dL_law_868 rfl rfl hnL (by decide) (4 * ((k : Nat) : Int) + 4) (by omega) rfl ?_
              refine r_goto hb 18 dL_law_871 (by decide) ?_
              refine r_lv [(3, .int (iI (4 * ((k + 1 : Nat) : Int)))), (2, .ref (N0 + 729)), (1, .ref N0), (0, .ref b)] [0, 1, 2, 3] (congrArg (fun zz : Int => ([(3, .int (iI zz)), (2, .ref (N0 + 729)), (1, .ref N0), (0, .ref b)] : List (Nat × Value))) (show (4 * ((k : Nat) : Int) + 4) = (4 * ((k + 1 : Nat) : Int)) from by omega)) ?_
              exact ih_lp (600 - (k + 1)) (by omega) (k + 1) _ ((oLet B D l nx hs s0 s1 thr (((xs (4 * k + 1)).toInt))).2) rfl (by omega) hX hM (by rw [rd_letter]; exact hsk.up (Nat.le_succ k))
            · exact absurd rfl c441
          · refine r_tsw hb 446 dL_law_32 14 hk14 (by decide) (by decide) rfl (by decide) ?_
            refine r_aload_n hb 447 dL_law_446 rfl 2 rfl ?_
            refine r_callV1 (st := []) hb ho 450 dL_law_447 rfl ck_L_72 (c_X8_comments N0 B D l nx hs s0 s1 thr  hX) rfl rfl ((xo_cell (T := (B, (D, l, nx), hs, s0, s1, thr)) hX)) rfl rfl (by rw [hR0]; exact ⟨Nat.le_of_ble_eq_true rfl, Nat.le_of_ble_eq_true rfl⟩) (Nat.le_of_ble_eq_true rfl) ⟨rfl, rfl⟩ (by rw [hR0]; exact Nat.le_of_ble_eq_true rfl) (by rw [hR0]; exact Nat.le_of_ble_eq_true rfl) (fun vw_447 w_447 nw_447 qw_447 => ?_)
            obtain ⟨rfl, rfl, hX, ow_447⟩ := qw_447
            have hM : mo_ w_447 (N0 + 729) (B, (D, l, nx), hs, s0, s1, thr) := mo_.off hM ow_447 (by omega)
            have hMm := hM
            obtain ⟨rg, g, sp, pa, kp, ik, bg, ln, od, sco, leo, smo, mcM, -⟩ := hMm
            refine r_aload_n hb 451 dL_law_450 rfl 1 rfl ?_
            refine r_callV1 (st := [.int ((oCnt B D l nx hs s0 s1 thr ).1)]) hb ho 454 dL_law_451 rfl ck_L_75 (c_X9_comments (N0 + 729) B D l nx hs s0 s1 thr  hM) rfl rfl (mcM) rfl rfl (by rw [hR0]; exact ⟨Nat.le_of_ble_eq_true rfl, Nat.le_of_ble_eq_true rfl⟩) (Nat.le_of_ble_eq_true rfl) ⟨rfl, rfl⟩ (by rw [hR0]; exact Nat.le_of_ble_eq_true rfl) (by rw [hR0]; exact Nat.le_of_ble_eq_true rfl) (fun vw_451 w_451 nw_451 qw_451 => ?_)
            obtain ⟨rfl, rfl, hM, ow_451⟩ := qw_451
            have hX := xo.off hX ow_451 (by omega)
            refine r_icmpR_eq hb 457 868 dL_law_454 rfl (by decide) (fun c454 => ?_) (fun c454 => ?_)
            · refine r_iinc [(3, .int (iI (4 * ((k : Nat) : Int) + 4))), (2, .ref (N0 + 729)), (1, .ref N0), (0, .ref b)] hb 871 4 0 dL_law_868 rfl rfl hnL (by decide) (4 * ((k : Nat) : Int) + 4) (by omega) rfl ?_
              refine r_goto hb 18 dL_law_871 (by decide) ?_
              refine r_lv [(3, .int (iI (4 * ((k + 1 : Nat) : Int)))), (2, .ref (N0 + 729)), (1, .ref N0), (0, .ref b)] [0, 1, 2, 3] (congrArg (fun zz : Int => ([(3, .int (iI zz)), (2, .ref (N0 + 729)), (1, .ref N0), (0, .ref b)] : List (Nat × Value))) (show (4 * ((k : Nat) : Int) + 4) = (4 * ((k + 1 : Nat) : Int)) from by omega)) ?_
              exact ih_lp (600 - (k + 1)) (by omega) (k + 1) _ ((oCnt B D l nx hs s0 s1 thr ).2) rfl (by omega) hX hM (by rw [rd_comments]; exact hsk.up (Nat.le_succ k))
            · exact absurd rfl c454
          · refine r_tsw hb 459 dL_law_32 15 hk15 (by decide) (by decide) rfl (by decide) ?_
            refine r_aload_n hb 460 dL_law_459 rfl 2 rfl ?_
            refine r_aload_n hb 461 dL_law_460 rfl 3 rfl ?_
            refine r_iload_n hb 462 dL_law_461 rfl 0 rfl ?_
            refine r_iconst hb 463 dL_law_462 rfl ?_
            refine r_iaddZ hb 464 (4 * ((k : Nat) : Int) + 1) dL_law_463 rfl (by omega) ?_
            refine r_sld hS hL 465 dL_law_464 rfl (4 * k + 1) (by omega) (by omega) ?_
            refine r_topz ((xs (4 * k + 1)).toInt) (iI_of _).symm ?_
            have hbz464 := iI_bd (xs (4 * k + 1))
            refine r_callV1 (st := []) hb ho 468 dL_law_465 rfl ck_L_76 (c_X8_commentAt N0 B D l nx hs s0 s1 thr (((xs (4 * k + 1)).toInt)) hX (iI_bd _)) rfl rfl ((xo_cell (T := (B, (D, l, nx), hs, s0, s1, thr)) hX)) rfl rfl (by rw [hR0]; exact ⟨Nat.le_of_ble_eq_true rfl, Nat.le_of_ble_eq_true rfl⟩) (Nat.le_of_ble_eq_true rfl) ⟨rfl, rfl⟩ (by rw [hR0]; exact Nat.le_of_ble_eq_true rfl) (by rw [hR0]; exact Nat.le_of_ble_eq_true rfl) (fun vw_465 w_465 nw_465 qw_465 => ?_)
            obtain ⟨rfl, rfl, hX, ow_465⟩ := qw_465
            have hM : mo_ w_465 (N0 + 729) (B, (D, l, nx), hs, s0, s1, thr) := mo_.off hM ow_465 (by omega)
            have hMm := hM
            obtain ⟨rg, g, sp, pa, kp, ik, bg, ln, od, sco, leo, smo, mcM, -⟩ := hMm
            refine r_aload_n hb 469 dL_law_468 rfl 1 rfl ?_
            refine r_aload_n hb 470 dL_law_469 rfl 3 rfl ?_
            refine r_iload_n hb 471 dL_law_470 rfl 0 rfl ?_
            refine r_iconst hb 472 dL_law_471 rfl ?_
            refine r_iaddZ hb 473 (4 * ((k : Nat) : Int) + 1) dL_law_472 rfl (by omega) ?_
            refine r_sld hS hL 474 dL_law_473 rfl (4 * k + 1) (by omega) (by omega) ?_
            refine r_topz ((xs (4 * k + 1)).toInt) (iI_of _).symm ?_
            have hbz473 := iI_bd (xs (4 * k + 1))
            refine r_callV1 (st := [.int ((oAt B D l nx hs s0 s1 thr (((xs (4 * k + 1)).toInt))).1)]) hb ho 477 dL_law_474 rfl ck_L_79 (c_X9_commentAt (N0 + 729) B D l nx hs s0 s1 thr (((xs (4 * k + 1)).toInt)) hM (iI_bd _)) rfl rfl (mcM) rfl rfl (by rw [hR0]; exact ⟨Nat.le_of_ble_eq_true rfl, Nat.le_of_ble_eq_true rfl⟩) (Nat.le_of_ble_eq_true rfl) ⟨rfl, rfl⟩ (by rw [hR0]; exact Nat.le_of_ble_eq_true rfl) (by rw [hR0]; exact Nat.le_of_ble_eq_true rfl) (fun vw_474 w_474 nw_474 qw_474 => ?_)
            obtain ⟨rfl, rfl, hM, ow_474⟩ := qw_474
            have hX := xo.off hX ow_474 (by omega)
            refine r_icmpR_eq hb 480 868 dL_law_477 rfl (by decide) (fun c477 => ?_) (fun c477 => ?_)
            · refine r_iinc [(3, .int (iI (4 * ((k : Nat) : Int) + 4))), (2, .ref (N0 + 729)), (1, .ref N0), (0, .ref b)] hb 871 4 0 dL_law_868 rfl rfl hnL (by decide) (4 * ((k : Nat) : Int) + 4) (by omega) rfl ?_
              refine r_goto hb 18 dL_law_871 (by decide) ?_
              refine r_lv [(3, .int (iI (4 * ((k + 1 : Nat) : Int)))), (2, .ref (N0 + 729)), (1, .ref N0), (0, .ref b)] [0, 1, 2, 3] (congrArg (fun zz : Int => ([(3, .int (iI zz)), (2, .ref (N0 + 729)), (1, .ref N0), (0, .ref b)] : List (Nat × Value))) (show (4 * ((k : Nat) : Int) + 4) = (4 * ((k + 1 : Nat) : Int)) from by omega)) ?_
              exact ih_lp (600 - (k + 1)) (by omega) (k + 1) _ ((oAt B D l nx hs s0 s1 thr (((xs (4 * k + 1)).toInt))).2) rfl (by omega) hX hM (by rw [rd_commentAt]; exact hsk.up (Nat.le_succ k))
            · exact absurd rfl c477
          · refine r_tsw hb 482 dL_law_32 16 hk16 (by decide) (by decide) rfl (by decide) ?_
            refine r_aload_n hb 483 dL_law_482 rfl 2 rfl ?_
            refine r_aload_n hb 484 dL_law_483 rfl 3 rfl ?_
            refine r_iload_n hb 485 dL_law_484 rfl 0 rfl ?_
            refine r_iconst hb 486 dL_law_485 rfl ?_
            refine r_iaddZ hb 487 (4 * ((k : Nat) : Int) + 1) dL_law_486 rfl (by omega) ?_
            refine r_sld hS hL 488 dL_law_487 rfl (4 * k + 1) (by omega) (by omega) ?_
            refine r_topz ((xs (4 * k + 1)).toInt) (iI_of _).symm ?_
            have hbz487 := iI_bd (xs (4 * k + 1))
            refine r_callV1 (st := []) hb ho 491 dL_law_488 rfl ck_L_80 (c_X8_state N0 B D l nx hs s0 s1 thr (((xs (4 * k + 1)).toInt)) hX (iI_bd _)) rfl rfl ((xo_cell (T := (B, (D, l, nx), hs, s0, s1, thr)) hX)) rfl rfl (by rw [hR0]; exact ⟨Nat.le_of_ble_eq_true rfl, Nat.le_of_ble_eq_true rfl⟩) (Nat.le_of_ble_eq_true rfl) ⟨rfl, rfl⟩ (by rw [hR0]; exact Nat.le_of_ble_eq_true rfl) (by rw [hR0]; exact Nat.le_of_ble_eq_true rfl) (fun vw_488 w_488 nw_488 qw_488 => ?_)
            obtain ⟨rfl, rfl, hX, ow_488⟩ := qw_488
            have hM : mo_ w_488 (N0 + 729) (B, (D, l, nx), hs, s0, s1, thr) := mo_.off hM ow_488 (by omega)
            have hMm := hM
            obtain ⟨rg, g, sp, pa, kp, ik, bg, ln, od, sco, leo, smo, mcM, -⟩ := hMm
            refine r_aload_n hb 492 dL_law_491 rfl 1 rfl ?_
            refine r_aload_n hb 493 dL_law_492 rfl 3 rfl ?_
            refine r_iload_n hb 494 dL_law_493 rfl 0 rfl ?_
            refine r_iconst hb 495 dL_law_494 rfl ?_
            refine r_iaddZ hb 496 (4 * ((k : Nat) : Int) + 1) dL_law_495 rfl (by omega) ?_
            refine r_sld hS hL 497 dL_law_496 rfl (4 * k + 1) (by omega) (by omega) ?_
            refine r_topz ((xs (4 * k + 1)).toInt) (iI_of _).symm ?_
            have hbz496 := iI_bd (xs (4 * k + 1))
            refine r_callV1 (st := [.int ((oSta B D l nx hs s0 s1 thr (((xs (4 * k + 1)).toInt))).1)]) hb ho 500 dL_law_497 rfl ck_L_83 (c_X9_state (N0 + 729) B D l nx hs s0 s1 thr (((xs (4 * k + 1)).toInt)) hM (iI_bd _)) rfl rfl (mcM) rfl rfl (by rw [hR0]; exact ⟨Nat.le_of_ble_eq_true rfl, Nat.le_of_ble_eq_true rfl⟩) (Nat.le_of_ble_eq_true rfl) ⟨rfl, rfl⟩ (by rw [hR0]; exact Nat.le_of_ble_eq_true rfl) (by rw [hR0]; exact Nat.le_of_ble_eq_true rfl) (fun vw_497 w_497 nw_497 qw_497 => ?_)
            obtain ⟨rfl, rfl, hM, ow_497⟩ := qw_497
            have hX := xo.off hX ow_497 (by omega)
            refine r_icmpR_eq hb 503 868 dL_law_500 rfl (by decide) (fun c500 => ?_) (fun c500 => ?_)
            · refine r_iinc [(3, .int (iI (4 * ((k : Nat) : Int) + 4))), (2, .ref (N0 + 729)), (1, .ref N0), (0, .ref b)] hb 871 4 0 dL_law_868 rfl rfl hnL (by decide) (4 * ((k : Nat) : Int) + 4) (by omega) rfl ?_
              refine r_goto hb 18 dL_law_871 (by decide) ?_
              refine r_lv [(3, .int (iI (4 * ((k + 1 : Nat) : Int)))), (2, .ref (N0 + 729)), (1, .ref N0), (0, .ref b)] [0, 1, 2, 3] (congrArg (fun zz : Int => ([(3, .int (iI zz)), (2, .ref (N0 + 729)), (1, .ref N0), (0, .ref b)] : List (Nat × Value))) (show (4 * ((k : Nat) : Int) + 4) = (4 * ((k + 1 : Nat) : Int)) from by omega)) ?_
              exact ih_lp (600 - (k + 1)) (by omega) (k + 1) _ ((oSta B D l nx hs s0 s1 thr (((xs (4 * k + 1)).toInt))).2) rfl (by omega) hX hM (by rw [rd_state]; exact hsk.up (Nat.le_succ k))
            · exact absurd rfl c500
          · refine r_tsw hb 505 dL_law_32 17 hk17 (by decide) (by decide) rfl (by decide) ?_
            refine r_aload_n hb 506 dL_law_505 rfl 2 rfl ?_
            refine r_aload_n hb 507 dL_law_506 rfl 3 rfl ?_
            refine r_iload_n hb 508 dL_law_507 rfl 0 rfl ?_
            refine r_iconst hb 509 dL_law_508 rfl ?_
            refine r_iaddZ hb 510 (4 * ((k : Nat) : Int) + 1) dL_law_509 rfl (by omega) ?_
            refine r_sld hS hL 511 dL_law_510 rfl (4 * k + 1) (by omega) (by omega) ?_
            refine r_topz ((xs (4 * k + 1)).toInt) (iI_of _).symm ?_
            have hbz510 := iI_bd (xs (4 * k + 1))
            refine r_aload_n hb 512 dL_law_511 rfl 3 rfl ?_
            refine r_iload_n hb 513 dL_law_512 rfl 0 rfl ?_
            refine r_iconst hb 514 dL_law_513 rfl ?_
            refine r_iaddZ hb 515 (4 * ((k : Nat) : Int) + 2) dL_law_514 rfl (by omega) ?_
            refine r_sld hS hL 516 dL_law_515 rfl (4 * k + 2) (by omega) (by omega) ?_
            refine r_topz ((xs (4 * k + 2)).toInt) (iI_of _).symm ?_
            have hbz515 := iI_bd (xs (4 * k + 2))
            refine r_if_eq hb 519 523 dL_law_516 rfl (by decide) (by omega) (fun c516 => ?_) (fun c516 => ?_)
            · refine r_iconst hb 524 dL_law_523 rfl ?_
              refine r_topv (.int (bI (false))) (rfl) ?_
              refine r_callV1 (st := []) hb ho 527 dL_law_524 rfl ck_L_84 (c_X8_range N0 B D l nx hs s0 s1 thr (((xs (4 * k + 1)).toInt)) false hX (iI_bd _)) rfl rfl ((xo_cell (T := (B, (D, l, nx), hs, s0, s1, thr)) hX)) rfl rfl (by rw [hR0]; exact ⟨Nat.le_of_ble_eq_true rfl, Nat.le_of_ble_eq_true rfl⟩) (Nat.le_of_ble_eq_true rfl) ⟨rfl, rfl⟩ (by rw [hR0]; exact Nat.le_of_ble_eq_true rfl) (by rw [hR0]; exact Nat.le_of_ble_eq_true rfl) (fun vw_524 w_524 nw_524 qw_524 => ?_)
              obtain ⟨rfl, rfl, hX, ow_524⟩ := qw_524
              have hM : mo_ w_524 (N0 + 729) (B, (D, l, nx), hs, s0, s1, thr) := mo_.off hM ow_524 (by omega)
              have hMm := hM
              obtain ⟨rg, g, sp, pa, kp, ik, bg, ln, od, sco, leo, smo, mcM, -⟩ := hMm
              refine r_aload_n hb 528 dL_law_527 rfl 1 rfl ?_
              refine r_aload_n hb 529 dL_law_528 rfl 3 rfl ?_
              refine r_iload_n hb 530 dL_law_529 rfl 0 rfl ?_
              refine r_iconst hb 531 dL_law_530 rfl ?_
              refine r_iaddZ hb 532 (4 * ((k : Nat) : Int) + 1) dL_law_531 rfl (by omega) ?_
              refine r_sld hS hL 533 dL_law_532 rfl (4 * k + 1) (by omega) (by omega) ?_
              refine r_topz ((xs (4 * k + 1)).toInt) (iI_of _).symm ?_
              have hbz532 := iI_bd (xs (4 * k + 1))
              refine r_aload_n hb 534 dL_law_533 rfl 3 rfl ?_
              refine r_iload_n hb 535 dL_law_534 rfl 0 rfl ?_
              refine r_iconst hb 536 dL_law_535 rfl ?_
              refine r_iaddZ hb 537 (4 * ((k : Nat) : Int) + 2) dL_law_536 rfl (by omega) ?_
              refine r_sld hS hL 538 dL_law_537 rfl (4 * k + 2) (by omega) (by omega) ?_
              refine r_topz ((xs (4 * k + 2)).toInt) (iI_of _).symm ?_
              have hbz537 := iI_bd (xs (4 * k + 2))
              refine r_if_eq hb 541 545 dL_law_538 rfl (by decide) (by omega) (fun c538 => ?_) (fun c538 => ?_)
              · refine r_iconst hb 546 dL_law_545 rfl ?_
                refine r_topv (.int (bI (false))) (rfl) ?_
                refine r_callV1 (st := [.int ((oRan B D l nx hs s0 s1 thr (((xs (4 * k + 1)).toInt)) false).1)]) hb ho 549 dL_law_546 rfl ck_L_88 (c_X9_range (N0 + 729) B D l nx hs s0 s1 thr (((xs (4 * k + 1)).toInt)) false hM (iI_bd _)) rfl rfl (mcM) rfl rfl (by rw [hR0]; exact ⟨Nat.le_of_ble_eq_true rfl, Nat.le_of_ble_eq_true rfl⟩) (Nat.le_of_ble_eq_true rfl) ⟨rfl, rfl⟩ (by rw [hR0]; exact Nat.le_of_ble_eq_true rfl) (by rw [hR0]; exact Nat.le_of_ble_eq_true rfl) (fun vw_546 w_546 nw_546 qw_546 => ?_)
                obtain ⟨rfl, rfl, hM, ow_546⟩ := qw_546
                have hX := xo.off hX ow_546 (by omega)
                refine r_icmpR_eq hb 552 868 dL_law_549 rfl (by decide) (fun c549 => ?_) (fun c549 => ?_)
                · refine r_iinc [(3, .int (iI (4 * ((k : Nat) : Int) + 4))), (2, .ref (N0 + 729)), (1, .ref N0), (0, .ref b)] hb 871 4 0 dL_law_868 rfl rfl hnL (by decide) (4 * ((k : Nat) : Int) + 4) (by omega) rfl ?_
                  refine r_goto hb 18 dL_law_871 (by decide) ?_
                  refine r_lv [(3, .int (iI (4 * ((k + 1 : Nat) : Int)))), (2, .ref (N0 + 729)), (1, .ref N0), (0, .ref b)] [0, 1, 2, 3] (congrArg (fun zz : Int => ([(3, .int (iI zz)), (2, .ref (N0 + 729)), (1, .ref N0), (0, .ref b)] : List (Nat × Value))) (show (4 * ((k : Nat) : Int) + 4) = (4 * ((k + 1 : Nat) : Int)) from by omega)) ?_
                  exact ih_lp (600 - (k + 1)) (by omega) (k + 1) _ ((oRan B D l nx hs s0 s1 thr (((xs (4 * k + 1)).toInt)) false).2) rfl (by omega) hX hM (by rw [rd_range]; exact hsk.up (Nat.le_succ k))
                · exact absurd rfl c549
              · exfalso; omega
            · refine r_iconst hb 520 dL_law_519 rfl ?_
              refine r_topv (.int (bI (true))) (rfl) ?_
              refine r_goto hb 524 dL_law_520 (by decide) ?_
              refine r_callV1 (st := []) hb ho 527 dL_law_524 rfl ck_L_84 (c_X8_range N0 B D l nx hs s0 s1 thr (((xs (4 * k + 1)).toInt)) true hX (iI_bd _)) rfl rfl ((xo_cell (T := (B, (D, l, nx), hs, s0, s1, thr)) hX)) rfl rfl (by rw [hR0]; exact ⟨Nat.le_of_ble_eq_true rfl, Nat.le_of_ble_eq_true rfl⟩) (Nat.le_of_ble_eq_true rfl) ⟨rfl, rfl⟩ (by rw [hR0]; exact Nat.le_of_ble_eq_true rfl) (by rw [hR0]; exact Nat.le_of_ble_eq_true rfl) (fun vw_524 w_524 nw_524 qw_524 => ?_)
              obtain ⟨rfl, rfl, hX, ow_524⟩ := qw_524
              have hM : mo_ w_524 (N0 + 729) (B, (D, l, nx), hs, s0, s1, thr) := mo_.off hM ow_524 (by omega)
              have hMm := hM
              obtain ⟨rg, g, sp, pa, kp, ik, bg, ln, od, sco, leo, smo, mcM, -⟩ := hMm
              refine r_aload_n hb 528 dL_law_527 rfl 1 rfl ?_
              refine r_aload_n hb 529 dL_law_528 rfl 3 rfl ?_
              refine r_iload_n hb 530 dL_law_529 rfl 0 rfl ?_
              refine r_iconst hb 531 dL_law_530 rfl ?_
              refine r_iaddZ hb 532 (4 * ((k : Nat) : Int) + 1) dL_law_531 rfl (by omega) ?_
              refine r_sld hS hL 533 dL_law_532 rfl (4 * k + 1) (by omega) (by omega) ?_
              refine r_topz ((xs (4 * k + 1)).toInt) (iI_of _).symm ?_
              have hbz532 := iI_bd (xs (4 * k + 1))
              refine r_aload_n hb 534 dL_law_533 rfl 3 rfl ?_
              refine r_iload_n hb 535 dL_law_534 rfl 0 rfl ?_
              refine r_iconst hb 536 dL_law_535 rfl ?_
              refine r_iaddZ hb 537 (4 * ((k : Nat) : Int) + 2) dL_law_536 rfl (by omega) ?_
              refine r_sld hS hL 538 dL_law_537 rfl (4 * k + 2) (by omega) (by omega) ?_
              refine r_topz ((xs (4 * k + 2)).toInt) (iI_of _).symm ?_
              have hbz537 := iI_bd (xs (4 * k + 2))
              refine r_if_eq hb 541 545 dL_law_538 rfl (by decide) (by omega) (fun c538 => ?_) (fun c538 => ?_)
              · exfalso; omega
              · refine r_iconst hb 542 dL_law_541 rfl ?_
                refine r_topv (.int (bI (true))) (rfl) ?_
                refine r_goto hb 546 dL_law_542 (by decide) ?_
                refine r_callV1 (st := [.int ((oRan B D l nx hs s0 s1 thr (((xs (4 * k + 1)).toInt)) true).1)]) hb ho 549 dL_law_546 rfl ck_L_88 (c_X9_range (N0 + 729) B D l nx hs s0 s1 thr (((xs (4 * k + 1)).toInt)) true hM (iI_bd _)) rfl rfl (mcM) rfl rfl (by rw [hR0]; exact ⟨Nat.le_of_ble_eq_true rfl, Nat.le_of_ble_eq_true rfl⟩) (Nat.le_of_ble_eq_true rfl) ⟨rfl, rfl⟩ (by rw [hR0]; exact Nat.le_of_ble_eq_true rfl) (by rw [hR0]; exact Nat.le_of_ble_eq_true rfl) (fun vw_546 w_546 nw_546 qw_546 => ?_)
                obtain ⟨rfl, rfl, hM, ow_546⟩ := qw_546
                have hX := xo.off hX ow_546 (by omega)
                refine r_icmpR_eq hb 552 868 dL_law_549 rfl (by decide) (fun c549 => ?_) (fun c549 => ?_)
                · refine r_iinc [(3, .int (iI (4 * ((k : Nat) : Int) + 4))), (2, .ref (N0 + 729)), (1, .ref N0), (0, .ref b)] hb 871 4 0 dL_law_868 rfl rfl hnL (by decide) (4 * ((k : Nat) : Int) + 4) (by omega) rfl ?_
                  refine r_goto hb 18 dL_law_871 (by decide) ?_
                  refine r_lv [(3, .int (iI (4 * ((k + 1 : Nat) : Int)))), (2, .ref (N0 + 729)), (1, .ref N0), (0, .ref b)] [0, 1, 2, 3] (congrArg (fun zz : Int => ([(3, .int (iI zz)), (2, .ref (N0 + 729)), (1, .ref N0), (0, .ref b)] : List (Nat × Value))) (show (4 * ((k : Nat) : Int) + 4) = (4 * ((k + 1 : Nat) : Int)) from by omega)) ?_
                  exact ih_lp (600 - (k + 1)) (by omega) (k + 1) _ ((oRan B D l nx hs s0 s1 thr (((xs (4 * k + 1)).toInt)) true).2) rfl (by omega) hX hM (by rw [rd_range]; exact hsk.up (Nat.le_succ k))
                · exact absurd rfl c549
          · refine r_tsw hb 554 dL_law_32 18 hk18 (by decide) (by decide) rfl (by decide) ?_
            refine r_aload_n hb 555 dL_law_554 rfl 2 rfl ?_
            refine r_aload_n hb 556 dL_law_555 rfl 3 rfl ?_
            refine r_iload_n hb 557 dL_law_556 rfl 0 rfl ?_
            refine r_iconst hb 558 dL_law_557 rfl ?_
            refine r_iaddZ hb 559 (4 * ((k : Nat) : Int) + 1) dL_law_558 rfl (by omega) ?_
            refine r_sld hS hL 560 dL_law_559 rfl (4 * k + 1) (by omega) (by omega) ?_
            refine r_topz ((xs (4 * k + 1)).toInt) (iI_of _).symm ?_
            have hbz559 := iI_bd (xs (4 * k + 1))
            refine r_callV1 (st := []) hb ho 563 dL_law_560 rfl ck_L_89 (c_X8_weight N0 B D l nx hs s0 s1 thr (((xs (4 * k + 1)).toInt)) hX (iI_bd _)) rfl rfl ((xo_cell (T := (B, (D, l, nx), hs, s0, s1, thr)) hX)) rfl rfl (by rw [hR0]; exact ⟨Nat.le_of_ble_eq_true rfl, Nat.le_of_ble_eq_true rfl⟩) (Nat.le_of_ble_eq_true rfl) ⟨rfl, rfl⟩ (by rw [hR0]; exact Nat.le_of_ble_eq_true rfl) (by rw [hR0]; exact Nat.le_of_ble_eq_true rfl) (fun vw_560 w_560 nw_560 qw_560 => ?_)
            obtain ⟨rfl, rfl, hX, ow_560⟩ := qw_560
            have hM : mo_ w_560 (N0 + 729) (B, (D, l, nx), hs, s0, s1, thr) := mo_.off hM ow_560 (by omega)
            have hMm := hM
            obtain ⟨rg, g, sp, pa, kp, ik, bg, ln, od, sco, leo, smo, mcM, -⟩ := hMm
            refine r_aload_n hb 564 dL_law_563 rfl 1 rfl ?_
            refine r_aload_n hb 565 dL_law_564 rfl 3 rfl ?_
            refine r_iload_n hb 566 dL_law_565 rfl 0 rfl ?_
            refine r_iconst hb 567 dL_law_566 rfl ?_
            refine r_iaddZ hb 568 (4 * ((k : Nat) : Int) + 1) dL_law_567 rfl (by omega) ?_
            refine r_sld hS hL 569 dL_law_568 rfl (4 * k + 1) (by omega) (by omega) ?_
            refine r_topz ((xs (4 * k + 1)).toInt) (iI_of _).symm ?_
            have hbz568 := iI_bd (xs (4 * k + 1))
            refine r_callV1 (st := [.int ((oWei B D l nx hs s0 s1 thr (((xs (4 * k + 1)).toInt))).1)]) hb ho 572 dL_law_569 rfl ck_L_92 (c_X9_weight (N0 + 729) B D l nx hs s0 s1 thr (((xs (4 * k + 1)).toInt)) hM (iI_bd _)) rfl rfl (mcM) rfl rfl (by rw [hR0]; exact ⟨Nat.le_of_ble_eq_true rfl, Nat.le_of_ble_eq_true rfl⟩) (Nat.le_of_ble_eq_true rfl) ⟨rfl, rfl⟩ (by rw [hR0]; exact Nat.le_of_ble_eq_true rfl) (by rw [hR0]; exact Nat.le_of_ble_eq_true rfl) (fun vw_569 w_569 nw_569 qw_569 => ?_)
            obtain ⟨rfl, rfl, hM, ow_569⟩ := qw_569
            have hX := xo.off hX ow_569 (by omega)
            refine r_icmpR_eq hb 575 868 dL_law_572 rfl (by decide) (fun c572 => ?_) (fun c572 => ?_)
            · refine r_iinc [(3, .int (iI (4 * ((k : Nat) : Int) + 4))), (2, .ref (N0 + 729)), (1, .ref N0), (0, .ref b)] hb 871 4 0 dL_law_868 rfl rfl hnL (by decide) (4 * ((k : Nat) : Int) + 4) (by omega) rfl ?_
              refine r_goto hb 18 dL_law_871 (by decide) ?_
              refine r_lv [(3, .int (iI (4 * ((k + 1 : Nat) : Int)))), (2, .ref (N0 + 729)), (1, .ref N0), (0, .ref b)] [0, 1, 2, 3] (congrArg (fun zz : Int => ([(3, .int (iI zz)), (2, .ref (N0 + 729)), (1, .ref N0), (0, .ref b)] : List (Nat × Value))) (show (4 * ((k : Nat) : Int) + 4) = (4 * ((k + 1 : Nat) : Int)) from by omega)) ?_
              exact ih_lp (600 - (k + 1)) (by omega) (k + 1) _ ((oWei B D l nx hs s0 s1 thr (((xs (4 * k + 1)).toInt))).2) rfl (by omega) hX hM (by rw [rd_weight]; exact hsk.up (Nat.le_succ k))
            · exact absurd rfl c572
          · refine r_tsw hb 577 dL_law_32 19 hk19 (by decide) (by decide) rfl (by decide) ?_
            refine r_aload_n hb 578 dL_law_577 rfl 2 rfl ?_
            refine r_aload_n hb 579 dL_law_578 rfl 3 rfl ?_
            refine r_iload_n hb 580 dL_law_579 rfl 0 rfl ?_
            refine r_iconst hb 581 dL_law_580 rfl ?_
            refine r_iaddZ hb 582 (4 * ((k : Nat) : Int) + 1) dL_law_581 rfl (by omega) ?_
            refine r_sld hS hL 583 dL_law_582 rfl (4 * k + 1) (by omega) (by omega) ?_
            refine r_topz ((xs (4 * k + 1)).toInt) (iI_of _).symm ?_
            have hbz582 := iI_bd (xs (4 * k + 1))
            refine r_aload_n hb 584 dL_law_583 rfl 3 rfl ?_
            refine r_iload_n hb 585 dL_law_584 rfl 0 rfl ?_
            refine r_iconst hb 586 dL_law_585 rfl ?_
            refine r_iaddZ hb 587 (4 * ((k : Nat) : Int) + 2) dL_law_586 rfl (by omega) ?_
            refine r_sld hS hL 588 dL_law_587 rfl (4 * k + 2) (by omega) (by omega) ?_
            refine r_topz ((xs (4 * k + 2)).toInt) (iI_of _).symm ?_
            have hbz587 := iI_bd (xs (4 * k + 2))
            refine r_aload_n hb 589 dL_law_588 rfl 3 rfl ?_
            refine r_iload_n hb 590 dL_law_589 rfl 0 rfl ?_
            refine r_iconst hb 591 dL_law_590 rfl ?_
            refine r_iaddZ hb 592 (4 * ((k : Nat) : Int) + 3) dL_law_591 rfl (by omega) ?_
            refine r_sld hS hL 593 dL_law_592 rfl (4 * k + 3) (by omega) (by omega) ?_
            refine r_topz ((xs (4 * k + 3)).toInt) (iI_of _).symm ?_
            have hbz592 := iI_bd (xs (4 * k + 3))
            refine r_callV1 (st := []) hb ho 596 dL_law_593 rfl ck_L_93 (c_X8_quoted N0 B D l nx hs s0 s1 thr (((xs (4 * k + 1)).toInt)) (((xs (4 * k + 2)).toInt)) (((xs (4 * k + 3)).toInt)) hX (iI_bd _) (iI_bd _) (iI_bd _)) rfl rfl ((xo_cell (T := (B, (D, l, nx), hs, s0, s1, thr)) hX)) rfl rfl (by rw [hR0]; exact ⟨Nat.le_of_ble_eq_true rfl, Nat.le_of_ble_eq_true rfl⟩) (Nat.le_of_ble_eq_true rfl) ⟨rfl, rfl⟩ (by rw [hR0]; exact Nat.le_of_ble_eq_true rfl) (by rw [hR0]; exact Nat.le_of_ble_eq_true rfl) (fun vw_593 w_593 nw_593 qw_593 => ?_)
            obtain ⟨rfl, rfl, hX, ow_593⟩ := qw_593
            have hM : mo_ w_593 (N0 + 729) (B, (D, l, nx), hs, s0, s1, thr) := mo_.off hM ow_593 (by omega)
            have hMm := hM
            obtain ⟨rg, g, sp, pa, kp, ik, bg, ln, od, sco, leo, smo, mcM, -⟩ := hMm
            refine r_aload_n hb 597 dL_law_596 rfl 1 rfl ?_
            refine r_aload_n hb 598 dL_law_597 rfl 3 rfl ?_
            refine r_iload_n hb 599 dL_law_598 rfl 0 rfl ?_
            refine r_iconst hb 600 dL_law_599 rfl ?_
            refine r_iaddZ hb 601 (4 * ((k : Nat) : Int) + 1) dL_law_600 rfl (by omega) ?_
            refine r_sld hS hL 602 dL_law_601 rfl (4 * k + 1) (by omega) (by omega) ?_
            refine r_topz ((xs (4 * k + 1)).toInt) (iI_of _).symm ?_
            have hbz601 := iI_bd (xs (4 * k + 1))
            refine r_aload_n hb 603 dL_law_602 rfl 3 rfl ?_
            refine r_iload_n hb 604 dL_law_603 rfl 0 rfl ?_
            refine r_iconst hb 605 dL_law_604 rfl ?_
            refine r_iaddZ hb 606 (4 * ((k : Nat) : Int) + 2) dL_law_605 rfl (by omega) ?_
            refine r_sld hS hL 607 dL_law_606 rfl (4 * k + 2) (by omega) (by omega) ?_
            refine r_topz ((xs (4 * k + 2)).toInt) (iI_of _).symm ?_
            have hbz606 := iI_bd (xs (4 * k + 2))
            refine r_aload_n hb 608 dL_law_607 rfl 3 rfl ?_
            refine r_iload_n hb 609 dL_law_608 rfl 0 rfl ?_
            refine r_iconst hb 610 dL_law_609 rfl ?_
            refine r_iaddZ hb 611 (4 * ((k : Nat) : Int) + 3) dL_law_610 rfl (by omega) ?_
            refine r_sld hS hL 612 dL_law_611 rfl (4 * k + 3) (by omega) (by omega) ?_
            refine r_topz ((xs (4 * k + 3)).toInt) (iI_of _).symm ?_
            have hbz611 := iI_bd (xs (4 * k + 3))
            refine r_callV1 (st := [.int ((oQtd B D l nx hs s0 s1 thr (((xs (4 * k + 1)).toInt)) (((xs (4 * k + 2)).toInt)) (((xs (4 * k + 3)).toInt))).1)]) hb ho 615 dL_law_612 rfl ck_L_97 (c_X9_quoted (N0 + 729) B D l nx hs s0 s1 thr (((xs (4 * k + 1)).toInt)) (((xs (4 * k + 2)).toInt)) (((xs (4 * k + 3)).toInt)) hM (iI_bd _) (iI_bd _) (iI_bd _)) rfl rfl (mcM) rfl rfl (by rw [hR0]; exact ⟨Nat.le_of_ble_eq_true rfl, Nat.le_of_ble_eq_true rfl⟩) (Nat.le_of_ble_eq_true rfl) ⟨rfl, rfl⟩ (by rw [hR0]; exact Nat.le_of_ble_eq_true rfl) (by rw [hR0]; exact Nat.le_of_ble_eq_true rfl) (fun vw_612 w_612 nw_612 qw_612 => ?_)
            obtain ⟨rfl, rfl, hM, ow_612⟩ := qw_612
            have hX := xo.off hX ow_612 (by omega)
            refine r_icmpR_eq hb 618 868 dL_law_615 rfl (by decide) (fun c615 => ?_) (fun c615 => ?_)
            · refine r_iinc [(3, .int (iI (4 * ((k : Nat) : Int) + 4))), (2, .ref (N0 + 729)), (1, .ref N0), (0, .ref b)] hb 871 4 0 dL_law_868 rfl rfl hnL (by decide) (4 * ((k : Nat) : Int) + 4) (by omega) rfl ?_
              refine r_goto hb 18 dL_law_871 (by decide) ?_
              refine r_lv [(3, .int (iI (4 * ((k + 1 : Nat) : Int)))), (2, .ref (N0 + 729)), (1, .ref N0), (0, .ref b)] [0, 1, 2, 3] (congrArg (fun zz : Int => ([(3, .int (iI zz)), (2, .ref (N0 + 729)), (1, .ref N0), (0, .ref b)] : List (Nat × Value))) (show (4 * ((k : Nat) : Int) + 4) = (4 * ((k + 1 : Nat) : Int)) from by omega)) ?_
              exact ih_lp (600 - (k + 1)) (by omega) (k + 1) _ ((oQtd B D l nx hs s0 s1 thr (((xs (4 * k + 1)).toInt)) (((xs (4 * k + 2)).toInt)) (((xs (4 * k + 3)).toInt))).2) rfl (by omega) hX hM (by rw [rd_quoted]; exact hsk.up (Nat.le_succ k))
            · exact absurd rfl c615
          · refine r_tsw hb 620 dL_law_32 20 hk20 (by decide) (by decide) rfl (by decide) ?_
            refine r_aload_n hb 621 dL_law_620 rfl 2 rfl ?_
            refine r_aload_n hb 622 dL_law_621 rfl 3 rfl ?_
            refine r_iload_n hb 623 dL_law_622 rfl 0 rfl ?_
            refine r_iconst hb 624 dL_law_623 rfl ?_
            refine r_iaddZ hb 625 (4 * ((k : Nat) : Int) + 1) dL_law_624 rfl (by omega) ?_
            refine r_sld hS hL 626 dL_law_625 rfl (4 * k + 1) (by omega) (by omega) ?_
            refine r_topz ((xs (4 * k + 1)).toInt) (iI_of _).symm ?_
            have hbz625 := iI_bd (xs (4 * k + 1))
            refine r_callV1 (st := []) hb ho 629 dL_law_626 rfl ck_L_98 (c_X8_distance N0 B D l nx hs s0 s1 thr (((xs (4 * k + 1)).toInt)) hX (iI_bd _) hok) rfl rfl ((xo_cell (T := (B, (D, l, nx), hs, s0, s1, thr)) hX)) rfl rfl (by rw [hR0]; exact ⟨Nat.le_of_ble_eq_true rfl, Nat.le_of_ble_eq_true rfl⟩) (Nat.le_of_ble_eq_true rfl) ⟨rfl, rfl⟩ (by rw [hR0]; exact Nat.le_of_ble_eq_true rfl) (by rw [hR0]; exact Nat.le_of_ble_eq_true rfl) (fun vw_626 w_626 nw_626 qw_626 => ?_)
            obtain ⟨rfl, rfl, hX, ow_626⟩ := qw_626
            have hM : mo_ w_626 (N0 + 729) (B, (D, l, nx), hs, s0, s1, thr) := mo_.off hM ow_626 (by omega)
            have hMm := hM
            obtain ⟨rg, g, sp, pa, kp, ik, bg, ln, od, sco, leo, smo, mcM, -⟩ := hMm
            refine r_aload_n hb 630 dL_law_629 rfl 1 rfl ?_
            refine r_aload_n hb 631 dL_law_630 rfl 3 rfl ?_
            refine r_iload_n hb 632 dL_law_631 rfl 0 rfl ?_
            refine r_iconst hb 633 dL_law_632 rfl ?_
            refine r_iaddZ hb 634 (4 * ((k : Nat) : Int) + 1) dL_law_633 rfl (by omega) ?_
            refine r_sld hS hL 635 dL_law_634 rfl (4 * k + 1) (by omega) (by omega) ?_
            refine r_topz ((xs (4 * k + 1)).toInt) (iI_of _).symm ?_
            have hbz634 := iI_bd (xs (4 * k + 1))
            refine r_callV1 (st := [.int ((oDis B D l nx hs s0 s1 thr (((xs (4 * k + 1)).toInt))).1)]) hb ho 638 dL_law_635 rfl ck_L_101 (c_X9_distance (N0 + 729) B D l nx hs s0 s1 thr (((xs (4 * k + 1)).toInt)) hM (iI_bd _) hok) rfl rfl (mcM) rfl rfl (by rw [hR0]; exact ⟨Nat.le_of_ble_eq_true rfl, Nat.le_of_ble_eq_true rfl⟩) (Nat.le_of_ble_eq_true rfl) ⟨rfl, rfl⟩ (by rw [hR0]; exact Nat.le_of_ble_eq_true rfl) (by rw [hR0]; exact Nat.le_of_ble_eq_true rfl) (fun vw_635 w_635 nw_635 qw_635 => ?_)
            obtain ⟨rfl, rfl, hM, ow_635⟩ := qw_635
            have hX := xo.off hX ow_635 (by omega)
            refine r_icmpR_eq hb 641 868 dL_law_638 rfl (by decide) (fun c638 => ?_) (fun c638 => ?_)
            · refine r_iinc [(3, .int (iI (4 * ((k : Nat) : Int) + 4))), (2, .ref (N0 + 729)), (1, .ref N0), (0, .ref b)] hb 871 4 0 dL_law_868 rfl rfl hnL (by decide) (4 * ((k : Nat) : Int) + 4) (by omega) rfl ?_
              refine r_goto hb 18 dL_law_871 (by decide) ?_
              refine r_lv [(3, .int (iI (4 * ((k + 1 : Nat) : Int)))), (2, .ref (N0 + 729)), (1, .ref N0), (0, .ref b)] [0, 1, 2, 3] (congrArg (fun zz : Int => ([(3, .int (iI zz)), (2, .ref (N0 + 729)), (1, .ref N0), (0, .ref b)] : List (Nat × Value))) (show (4 * ((k : Nat) : Int) + 4) = (4 * ((k + 1 : Nat) : Int)) from by omega)) ?_
              exact ih_lp (600 - (k + 1)) (by omega) (k + 1) _ ((oDis B D l nx hs s0 s1 thr (((xs (4 * k + 1)).toInt))).2) rfl (by omega) hX hM (by rw [rd_distance]; exact hsk.up (Nat.le_succ k))
            · exact absurd rfl c638
          · refine r_tsw hb 643 dL_law_32 21 hk21 (by decide) (by decide) rfl (by decide) ?_
            refine r_aload_n hb 644 dL_law_643 rfl 2 rfl ?_
            refine r_aload_n hb 645 dL_law_644 rfl 3 rfl ?_
            refine r_iload_n hb 646 dL_law_645 rfl 0 rfl ?_
            refine r_iconst hb 647 dL_law_646 rfl ?_
            refine r_iaddZ hb 648 (4 * ((k : Nat) : Int) + 1) dL_law_647 rfl (by omega) ?_
            refine r_sld hS hL 649 dL_law_648 rfl (4 * k + 1) (by omega) (by omega) ?_
            refine r_topz ((xs (4 * k + 1)).toInt) (iI_of _).symm ?_
            have hbz648 := iI_bd (xs (4 * k + 1))
            refine r_aload_n hb 650 dL_law_649 rfl 3 rfl ?_
            refine r_iload_n hb 651 dL_law_650 rfl 0 rfl ?_
            refine r_iconst hb 652 dL_law_651 rfl ?_
            refine r_iaddZ hb 653 (4 * ((k : Nat) : Int) + 2) dL_law_652 rfl (by omega) ?_
            refine r_sld hS hL 654 dL_law_653 rfl (4 * k + 2) (by omega) (by omega) ?_
            refine r_topz ((xs (4 * k + 2)).toInt) (iI_of _).symm ?_
            have hbz653 := iI_bd (xs (4 * k + 2))
            refine r_aload_n hb 655 dL_law_654 rfl 3 rfl ?_
            refine r_iload_n hb 656 dL_law_655 rfl 0 rfl ?_
            refine r_iconst hb 657 dL_law_656 rfl ?_
            refine r_iaddZ hb 658 (4 * ((k : Nat) : Int) + 3) dL_law_657 rfl (by omega) ?_
            refine r_sld hS hL 659 dL_law_658 rfl (4 * k + 3) (by omega) (by omega) ?_
            refine r_topz ((xs (4 * k + 3)).toInt) (iI_of _).symm ?_
            have hbz658 := iI_bd (xs (4 * k + 3))
            refine r_callV1 (st := []) hb ho 662 dL_law_659 rfl ck_L_102 (c_X8_score N0 B D l nx hs s0 s1 thr (((xs (4 * k + 1)).toInt)) (((xs (4 * k + 2)).toInt)) (((xs (4 * k + 3)).toInt)) hX (iI_bd _) (iI_bd _) (iI_bd _) hok) rfl rfl ((xo_cell (T := (B, (D, l, nx), hs, s0, s1, thr)) hX)) rfl rfl (by rw [hR0]; exact ⟨Nat.le_of_ble_eq_true rfl, Nat.le_of_ble_eq_true rfl⟩) (Nat.le_of_ble_eq_true rfl) ⟨rfl, rfl⟩ (by rw [hR0]; exact Nat.le_of_ble_eq_true rfl) (by rw [hR0]; exact Nat.le_of_ble_eq_true rfl) (fun vw_659 w_659 nw_659 qw_659 => ?_)
            obtain ⟨rfl, rfl, hX, ow_659⟩ := qw_659
            have hM : mo_ w_659 (N0 + 729) (B, (D, l, nx), hs, s0, s1, thr) := mo_.off hM ow_659 (by omega)
            have hMm := hM
            obtain ⟨rg, g, sp, pa, kp, ik, bg, ln, od, sco, leo, smo, mcM, -⟩ := hMm
            refine r_aload_n hb 663 dL_law_662 rfl 1 rfl ?_
            refine r_aload_n hb 664 dL_law_663 rfl 3 rfl ?_
            refine r_iload_n hb 665 dL_law_664 rfl 0 rfl ?_
            refine r_iconst hb 666 dL_law_665 rfl ?_
            refine r_iaddZ hb 667 (4 * ((k : Nat) : Int) + 1) dL_law_666 rfl (by omega) ?_
            refine r_sld hS hL 668 dL_law_667 rfl (4 * k + 1) (by omega) (by omega) ?_
            refine r_topz ((xs (4 * k + 1)).toInt) (iI_of _).symm ?_
            have hbz667 := iI_bd (xs (4 * k + 1))
            refine r_aload_n hb 669 dL_law_668 rfl 3 rfl ?_
            refine r_iload_n hb 670 dL_law_669 rfl 0 rfl ?_
            refine r_iconst hb 671 dL_law_670 rfl ?_
            refine r_iaddZ hb 672 (4 * ((k : Nat) : Int) + 2) dL_law_671 rfl (by omega) ?_
            refine r_sld hS hL 673 dL_law_672 rfl (4 * k + 2) (by omega) (by omega) ?_
            refine r_topz ((xs (4 * k + 2)).toInt) (iI_of _).symm ?_
            have hbz672 := iI_bd (xs (4 * k + 2))
            refine r_aload_n hb 674 dL_law_673 rfl 3 rfl ?_
            refine r_iload_n hb 675 dL_law_674 rfl 0 rfl ?_
            refine r_iconst hb 676 dL_law_675 rfl ?_
            refine r_iaddZ hb 677 (4 * ((k : Nat) : Int) + 3) dL_law_676 rfl (by omega) ?_
            refine r_sld hS hL 678 dL_law_677 rfl (4 * k + 3) (by omega) (by omega) ?_
            refine r_topz ((xs (4 * k + 3)).toInt) (iI_of _).symm ?_
            have hbz677 := iI_bd (xs (4 * k + 3))
            refine r_callV1 (st := [.int ((oSco B D l nx hs s0 s1 thr (((xs (4 * k + 1)).toInt)) (((xs (4 * k + 2)).toInt)) (((xs (4 * k + 3)).toInt))).1)]) hb ho 681 dL_law_678 rfl ck_L_105 (c_X9_score (N0 + 729) B D l nx hs s0 s1 thr (((xs (4 * k + 1)).toInt)) (((xs (4 * k + 2)).toInt)) (((xs (4 * k + 3)).toInt)) hM (iI_bd _) (iI_bd _) (iI_bd _)) rfl rfl (mcM) rfl rfl (by rw [hR0]; exact ⟨Nat.le_of_ble_eq_true rfl, Nat.le_of_ble_eq_true rfl⟩) (Nat.le_of_ble_eq_true rfl) ⟨rfl, rfl⟩ (by rw [hR0]; exact Nat.le_of_ble_eq_true rfl) (by rw [hR0]; exact Nat.le_of_ble_eq_true rfl) (fun vw_678 w_678 nw_678 qw_678 => ?_)
            obtain ⟨rfl, rfl, hM, ow_678⟩ := qw_678
            have hX := xo.off hX ow_678 (by omega)
            refine r_icmpR_eq hb 684 868 dL_law_681 rfl (by decide) (fun c681 => ?_) (fun c681 => ?_)
            · refine r_iinc [(3, .int (iI (4 * ((k : Nat) : Int) + 4))), (2, .ref (N0 + 729)), (1, .ref N0), (0, .ref b)] hb 871 4 0 dL_law_868 rfl rfl hnL (by decide) (4 * ((k : Nat) : Int) + 4) (by omega) rfl ?_
              refine r_goto hb 18 dL_law_871 (by decide) ?_
              refine r_lv [(3, .int (iI (4 * ((k + 1 : Nat) : Int)))), (2, .ref (N0 + 729)), (1, .ref N0), (0, .ref b)] [0, 1, 2, 3] (congrArg (fun zz : Int => ([(3, .int (iI zz)), (2, .ref (N0 + 729)), (1, .ref N0), (0, .ref b)] : List (Nat × Value))) (show (4 * ((k : Nat) : Int) + 4) = (4 * ((k + 1 : Nat) : Int)) from by omega)) ?_
              exact ih_lp (600 - (k + 1)) (by omega) (k + 1) _ ((oSco B D l nx hs s0 s1 thr (((xs (4 * k + 1)).toInt)) (((xs (4 * k + 2)).toInt)) (((xs (4 * k + 3)).toInt))).2) rfl (by omega) hX hM (by rw [rd_score]; exact hsk.up (Nat.le_succ k))
            · exact absurd rfl c681
          · refine r_tsw hb 686 dL_law_32 22 hk22 (by decide) (by decide) rfl (by decide) ?_
            refine r_aload_n hb 687 dL_law_686 rfl 2 rfl ?_
            refine r_aload_n hb 688 dL_law_687 rfl 3 rfl ?_
            refine r_iload_n hb 689 dL_law_688 rfl 0 rfl ?_
            refine r_iconst hb 690 dL_law_689 rfl ?_
            refine r_iaddZ hb 691 (4 * ((k : Nat) : Int) + 1) dL_law_690 rfl (by omega) ?_
            refine r_sld hS hL 692 dL_law_691 rfl (4 * k + 1) (by omega) (by omega) ?_
            refine r_topz ((xs (4 * k + 1)).toInt) (iI_of _).symm ?_
            have hbz691 := iI_bd (xs (4 * k + 1))
            refine r_aload_n hb 693 dL_law_692 rfl 3 rfl ?_
            refine r_iload_n hb 694 dL_law_693 rfl 0 rfl ?_
            refine r_iconst hb 695 dL_law_694 rfl ?_
            refine r_iaddZ hb 696 (4 * ((k : Nat) : Int) + 2) dL_law_695 rfl (by omega) ?_
            refine r_sld hS hL 697 dL_law_696 rfl (4 * k + 2) (by omega) (by omega) ?_
            refine r_topz ((xs (4 * k + 2)).toInt) (iI_of _).symm ?_
            have hbz696 := iI_bd (xs (4 * k + 2))
            refine r_callV1 (st := []) hb ho 700 dL_law_697 rfl ck_L_106 (c_X8_best N0 B D l nx hs s0 s1 thr (((xs (4 * k + 1)).toInt)) (((xs (4 * k + 2)).toInt)) hX (iI_bd _) (iI_bd _) hok) rfl rfl ((xo_cell (T := (B, (D, l, nx), hs, s0, s1, thr)) hX)) rfl rfl (by rw [hR0]; exact ⟨Nat.le_of_ble_eq_true rfl, Nat.le_of_ble_eq_true rfl⟩) (Nat.le_of_ble_eq_true rfl) ⟨rfl, rfl⟩ (by rw [hR0]; exact Nat.le_of_ble_eq_true rfl) (by rw [hR0]; exact Nat.le_of_ble_eq_true rfl) (fun vw_697 w_697 nw_697 qw_697 => ?_)
            obtain ⟨rfl, rfl, hX, ow_697⟩ := qw_697
            have hM : mo_ w_697 (N0 + 729) (B, (D, l, nx), hs, s0, s1, thr) := mo_.off hM ow_697 (by omega)
            have hMm := hM
            obtain ⟨rg, g, sp, pa, kp, ik, bg, ln, od, sco, leo, smo, mcM, -⟩ := hMm
            refine r_aload_n hb 701 dL_law_700 rfl 1 rfl ?_
            refine r_aload_n hb 702 dL_law_701 rfl 3 rfl ?_
            refine r_iload_n hb 703 dL_law_702 rfl 0 rfl ?_
            refine r_iconst hb 704 dL_law_703 rfl ?_
            refine r_iaddZ hb 705 (4 * ((k : Nat) : Int) + 1) dL_law_704 rfl (by omega) ?_
            refine r_sld hS hL 706 dL_law_705 rfl (4 * k + 1) (by omega) (by omega) ?_
            refine r_topz ((xs (4 * k + 1)).toInt) (iI_of _).symm ?_
            have hbz705 := iI_bd (xs (4 * k + 1))
            refine r_aload_n hb 707 dL_law_706 rfl 3 rfl ?_
            refine r_iload_n hb 708 dL_law_707 rfl 0 rfl ?_
            refine r_iconst hb 709 dL_law_708 rfl ?_
            refine r_iaddZ hb 710 (4 * ((k : Nat) : Int) + 2) dL_law_709 rfl (by omega) ?_
            refine r_sld hS hL 711 dL_law_710 rfl (4 * k + 2) (by omega) (by omega) ?_
            refine r_topz ((xs (4 * k + 2)).toInt) (iI_of _).symm ?_
            have hbz710 := iI_bd (xs (4 * k + 2))
            refine r_callV1 (st := [.int ((oBes B D l nx hs s0 s1 thr (((xs (4 * k + 1)).toInt)) (((xs (4 * k + 2)).toInt))).1)]) hb ho 714 dL_law_711 rfl ck_L_109 (c_X9_best (N0 + 729) B D l nx hs s0 s1 thr (((xs (4 * k + 1)).toInt)) (((xs (4 * k + 2)).toInt)) hM (iI_bd _) (iI_bd _) hok) rfl rfl (mcM) rfl rfl (by rw [hR0]; exact ⟨Nat.le_of_ble_eq_true rfl, Nat.le_of_ble_eq_true rfl⟩) (Nat.le_of_ble_eq_true rfl) ⟨rfl, rfl⟩ (by rw [hR0]; exact Nat.le_of_ble_eq_true rfl) (by rw [hR0]; exact Nat.le_of_ble_eq_true rfl) (fun vw_711 w_711 nw_711 qw_711 => ?_)
            obtain ⟨rfl, rfl, hM, ow_711⟩ := qw_711
            have hX := xo.off hX ow_711 (by omega)
            refine r_icmpR_eq hb 717 868 dL_law_714 rfl (by decide) (fun c714 => ?_) (fun c714 => ?_)
            · refine r_iinc [(3, .int (iI (4 * ((k : Nat) : Int) + 4))), (2, .ref (N0 + 729)), (1, .ref N0), (0, .ref b)] hb 871 4 0 dL_law_868 rfl rfl hnL (by decide) (4 * ((k : Nat) : Int) + 4) (by omega) rfl ?_
              refine r_goto hb 18 dL_law_871 (by decide) ?_
              refine r_lv [(3, .int (iI (4 * ((k + 1 : Nat) : Int)))), (2, .ref (N0 + 729)), (1, .ref N0), (0, .ref b)] [0, 1, 2, 3] (congrArg (fun zz : Int => ([(3, .int (iI zz)), (2, .ref (N0 + 729)), (1, .ref N0), (0, .ref b)] : List (Nat × Value))) (show (4 * ((k : Nat) : Int) + 4) = (4 * ((k + 1 : Nat) : Int)) from by omega)) ?_
              exact ih_lp (600 - (k + 1)) (by omega) (k + 1) _ ((oBes B D l nx hs s0 s1 thr (((xs (4 * k + 1)).toInt)) (((xs (4 * k + 2)).toInt))).2) rfl (by omega) hX hM (by rw [rd_best]; exact hsk.up (Nat.le_succ k))
            · exact absurd rfl c714
          · refine r_tsw hb 719 dL_law_32 23 hk23 (by decide) (by decide) rfl (by decide) ?_
            refine r_aload_n hb 720 dL_law_719 rfl 2 rfl ?_
            refine r_aload_n hb 721 dL_law_720 rfl 3 rfl ?_
            refine r_iload_n hb 722 dL_law_721 rfl 0 rfl ?_
            refine r_iconst hb 723 dL_law_722 rfl ?_
            refine r_iaddZ hb 724 (4 * ((k : Nat) : Int) + 1) dL_law_723 rfl (by omega) ?_
            refine r_sld hS hL 725 dL_law_724 rfl (4 * k + 1) (by omega) (by omega) ?_
            refine r_topz ((xs (4 * k + 1)).toInt) (iI_of _).symm ?_
            have hbz724 := iI_bd (xs (4 * k + 1))
            refine r_aload_n hb 726 dL_law_725 rfl 3 rfl ?_
            refine r_iload_n hb 727 dL_law_726 rfl 0 rfl ?_
            refine r_iconst hb 728 dL_law_727 rfl ?_
            refine r_iaddZ hb 729 (4 * ((k : Nat) : Int) + 2) dL_law_728 rfl (by omega) ?_
            refine r_sld hS hL 730 dL_law_729 rfl (4 * k + 2) (by omega) (by omega) ?_
            refine r_topz ((xs (4 * k + 2)).toInt) (iI_of _).symm ?_
            have hbz729 := iI_bd (xs (4 * k + 2))
            refine r_callV1 (st := []) hb ho 733 dL_law_730 rfl ck_L_110 (c_X8_overlap N0 B D l nx hs s0 s1 thr (((xs (4 * k + 1)).toInt)) (((xs (4 * k + 2)).toInt)) hX (iI_bd _) (iI_bd _)) rfl rfl ((xo_cell (T := (B, (D, l, nx), hs, s0, s1, thr)) hX)) rfl rfl (by rw [hR0]; exact ⟨Nat.le_of_ble_eq_true rfl, Nat.le_of_ble_eq_true rfl⟩) (Nat.le_of_ble_eq_true rfl) ⟨rfl, rfl⟩ (by rw [hR0]; exact Nat.le_of_ble_eq_true rfl) (by rw [hR0]; exact Nat.le_of_ble_eq_true rfl) (fun vw_730 w_730 nw_730 qw_730 => ?_)
            obtain ⟨rfl, rfl, hX, ow_730⟩ := qw_730
            have hM : mo_ w_730 (N0 + 729) (B, (D, l, nx), hs, s0, s1, thr) := mo_.off hM ow_730 (by omega)
            have hMm := hM
            obtain ⟨rg, g, sp, pa, kp, ik, bg, ln, od, sco, leo, smo, mcM, -⟩ := hMm
            refine r_aload_n hb 734 dL_law_733 rfl 1 rfl ?_
            refine r_aload_n hb 735 dL_law_734 rfl 3 rfl ?_
            refine r_iload_n hb 736 dL_law_735 rfl 0 rfl ?_
            refine r_iconst hb 737 dL_law_736 rfl ?_
            refine r_iaddZ hb 738 (4 * ((k : Nat) : Int) + 1) dL_law_737 rfl (by omega) ?_
            refine r_sld hS hL 739 dL_law_738 rfl (4 * k + 1) (by omega) (by omega) ?_
            refine r_topz ((xs (4 * k + 1)).toInt) (iI_of _).symm ?_
            have hbz738 := iI_bd (xs (4 * k + 1))
            refine r_aload_n hb 740 dL_law_739 rfl 3 rfl ?_
            refine r_iload_n hb 741 dL_law_740 rfl 0 rfl ?_
            refine r_iconst hb 742 dL_law_741 rfl ?_
            refine r_iaddZ hb 743 (4 * ((k : Nat) : Int) + 2) dL_law_742 rfl (by omega) ?_
            refine r_sld hS hL 744 dL_law_743 rfl (4 * k + 2) (by omega) (by omega) ?_
            refine r_topz ((xs (4 * k + 2)).toInt) (iI_of _).symm ?_
            have hbz743 := iI_bd (xs (4 * k + 2))
            refine r_callV1 (st := [.int ((oOve B D l nx hs s0 s1 thr (((xs (4 * k + 1)).toInt)) (((xs (4 * k + 2)).toInt))).1)]) hb ho 747 dL_law_744 rfl ck_L_113 (c_X9_overlap (N0 + 729) B D l nx hs s0 s1 thr (((xs (4 * k + 1)).toInt)) (((xs (4 * k + 2)).toInt)) hM (iI_bd _) (iI_bd _)) rfl rfl (mcM) rfl rfl (by rw [hR0]; exact ⟨Nat.le_of_ble_eq_true rfl, Nat.le_of_ble_eq_true rfl⟩) (Nat.le_of_ble_eq_true rfl) ⟨rfl, rfl⟩ (by rw [hR0]; exact Nat.le_of_ble_eq_true rfl) (by rw [hR0]; exact Nat.le_of_ble_eq_true rfl) (fun vw_744 w_744 nw_744 qw_744 => ?_)
            obtain ⟨rfl, rfl, hM, ow_744⟩ := qw_744
            have hX := xo.off hX ow_744 (by omega)
            refine r_icmpR_eq hb 750 868 dL_law_747 rfl (by decide) (fun c747 => ?_) (fun c747 => ?_)
            · refine r_iinc [(3, .int (iI (4 * ((k : Nat) : Int) + 4))), (2, .ref (N0 + 729)), (1, .ref N0), (0, .ref b)] hb 871 4 0 dL_law_868 rfl rfl hnL (by decide) (4 * ((k : Nat) : Int) + 4) (by omega) rfl ?_
              refine r_goto hb 18 dL_law_871 (by decide) ?_
              refine r_lv [(3, .int (iI (4 * ((k + 1 : Nat) : Int)))), (2, .ref (N0 + 729)), (1, .ref N0), (0, .ref b)] [0, 1, 2, 3] (congrArg (fun zz : Int => ([(3, .int (iI zz)), (2, .ref (N0 + 729)), (1, .ref N0), (0, .ref b)] : List (Nat × Value))) (show (4 * ((k : Nat) : Int) + 4) = (4 * ((k + 1 : Nat) : Int)) from by omega)) ?_
              exact ih_lp (600 - (k + 1)) (by omega) (k + 1) _ ((oOve B D l nx hs s0 s1 thr (((xs (4 * k + 1)).toInt)) (((xs (4 * k + 2)).toInt))).2) rfl (by omega) hX hM (by rw [rd_overlap]; exact hsk.up (Nat.le_succ k))
            · exact absurd rfl c747
          · refine r_tsw hb 752 dL_law_32 24 hk24 (by decide) (by decide) rfl (by decide) ?_
            refine r_aload_n hb 753 dL_law_752 rfl 2 rfl ?_
            refine r_aload_n hb 754 dL_law_753 rfl 3 rfl ?_
            refine r_iload_n hb 755 dL_law_754 rfl 0 rfl ?_
            refine r_iconst hb 756 dL_law_755 rfl ?_
            refine r_iaddZ hb 757 (4 * ((k : Nat) : Int) + 1) dL_law_756 rfl (by omega) ?_
            refine r_sld hS hL 758 dL_law_757 rfl (4 * k + 1) (by omega) (by omega) ?_
            refine r_topz ((xs (4 * k + 1)).toInt) (iI_of _).symm ?_
            have hbz757 := iI_bd (xs (4 * k + 1))
            refine r_aload_n hb 759 dL_law_758 rfl 3 rfl ?_
            refine r_iload_n hb 760 dL_law_759 rfl 0 rfl ?_
            refine r_iconst hb 761 dL_law_760 rfl ?_
            refine r_iaddZ hb 762 (4 * ((k : Nat) : Int) + 2) dL_law_761 rfl (by omega) ?_
            refine r_sld hS hL 763 dL_law_762 rfl (4 * k + 2) (by omega) (by omega) ?_
            refine r_topz ((xs (4 * k + 2)).toInt) (iI_of _).symm ?_
            have hbz762 := iI_bd (xs (4 * k + 2))
            refine r_callV1 (st := []) hb ho 766 dL_law_763 rfl ck_L_114 (c_X8_covering N0 B D l nx hs s0 s1 thr (((xs (4 * k + 1)).toInt)) (((xs (4 * k + 2)).toInt)) hX (iI_bd _) (iI_bd _)) rfl rfl ((xo_cell (T := (B, (D, l, nx), hs, s0, s1, thr)) hX)) rfl rfl (by rw [hR0]; exact ⟨Nat.le_of_ble_eq_true rfl, Nat.le_of_ble_eq_true rfl⟩) (Nat.le_of_ble_eq_true rfl) ⟨rfl, rfl⟩ (by rw [hR0]; exact Nat.le_of_ble_eq_true rfl) (by rw [hR0]; exact Nat.le_of_ble_eq_true rfl) (fun vw_763 w_763 nw_763 qw_763 => ?_)
            obtain ⟨rfl, rfl, hX, ow_763⟩ := qw_763
            have hM : mo_ w_763 (N0 + 729) (B, (D, l, nx), hs, s0, s1, thr) := mo_.off hM ow_763 (by omega)
            have hMm := hM
            obtain ⟨rg, g, sp, pa, kp, ik, bg, ln, od, sco, leo, smo, mcM, -⟩ := hMm
            refine r_aload_n hb 767 dL_law_766 rfl 1 rfl ?_
            refine r_aload_n hb 768 dL_law_767 rfl 3 rfl ?_
            refine r_iload_n hb 769 dL_law_768 rfl 0 rfl ?_
            refine r_iconst hb 770 dL_law_769 rfl ?_
            refine r_iaddZ hb 771 (4 * ((k : Nat) : Int) + 1) dL_law_770 rfl (by omega) ?_
            refine r_sld hS hL 772 dL_law_771 rfl (4 * k + 1) (by omega) (by omega) ?_
            refine r_topz ((xs (4 * k + 1)).toInt) (iI_of _).symm ?_
            have hbz771 := iI_bd (xs (4 * k + 1))
            refine r_aload_n hb 773 dL_law_772 rfl 3 rfl ?_
            refine r_iload_n hb 774 dL_law_773 rfl 0 rfl ?_
            refine r_iconst hb 775 dL_law_774 rfl ?_
            refine r_iaddZ hb 776 (4 * ((k : Nat) : Int) + 2) dL_law_775 rfl (by omega) ?_
            refine r_sld hS hL 777 dL_law_776 rfl (4 * k + 2) (by omega) (by omega) ?_
            refine r_topz ((xs (4 * k + 2)).toInt) (iI_of _).symm ?_
            have hbz776 := iI_bd (xs (4 * k + 2))
            refine r_callV1 (st := [.int ((oCov B D l nx hs s0 s1 thr (((xs (4 * k + 1)).toInt)) (((xs (4 * k + 2)).toInt))).1)]) hb ho 780 dL_law_777 rfl ck_L_117 (c_X9_covering (N0 + 729) B D l nx hs s0 s1 thr (((xs (4 * k + 1)).toInt)) (((xs (4 * k + 2)).toInt)) hM (iI_bd _) (iI_bd _) hok) rfl rfl (mcM) rfl rfl (by rw [hR0]; exact ⟨Nat.le_of_ble_eq_true rfl, Nat.le_of_ble_eq_true rfl⟩) (Nat.le_of_ble_eq_true rfl) ⟨rfl, rfl⟩ (by rw [hR0]; exact Nat.le_of_ble_eq_true rfl) (by rw [hR0]; exact Nat.le_of_ble_eq_true rfl) (fun vw_777 w_777 nw_777 qw_777 => ?_)
            obtain ⟨rfl, rfl, hM, ow_777⟩ := qw_777
            have hX := xo.off hX ow_777 (by omega)
            refine r_icmpR_eq hb 783 868 dL_law_780 rfl (by decide) (fun c780 => ?_) (fun c780 => ?_)
            · refine r_iinc [(3, .int (iI (4 * ((k : Nat) : Int) + 4))), (2, .ref (N0 + 729)), (1, .ref N0), (0, .ref b)] hb 871 4 0 dL_law_868 rfl rfl hnL (by decide) (4 * ((k : Nat) : Int) + 4) (by omega) rfl ?_
              refine r_goto hb 18 dL_law_871 (by decide) ?_
              refine r_lv [(3, .int (iI (4 * ((k + 1 : Nat) : Int)))), (2, .ref (N0 + 729)), (1, .ref N0), (0, .ref b)] [0, 1, 2, 3] (congrArg (fun zz : Int => ([(3, .int (iI zz)), (2, .ref (N0 + 729)), (1, .ref N0), (0, .ref b)] : List (Nat × Value))) (show (4 * ((k : Nat) : Int) + 4) = (4 * ((k + 1 : Nat) : Int)) from by omega)) ?_
              exact ih_lp (600 - (k + 1)) (by omega) (k + 1) _ ((oCov B D l nx hs s0 s1 thr (((xs (4 * k + 1)).toInt)) (((xs (4 * k + 2)).toInt))).2) rfl (by omega) hX hM (by rw [rd_covering]; exact hsk.up (Nat.le_succ k))
            · exact absurd rfl c780
          · refine r_tsw hb 785 dL_law_32 25 hk25 (by decide) (by decide) rfl (by decide) ?_
            refine r_aload_n hb 786 dL_law_785 rfl 2 rfl ?_
            refine r_aload_n hb 787 dL_law_786 rfl 3 rfl ?_
            refine r_iload_n hb 788 dL_law_787 rfl 0 rfl ?_
            refine r_iconst hb 789 dL_law_788 rfl ?_
            refine r_iaddZ hb 790 (4 * ((k : Nat) : Int) + 1) dL_law_789 rfl (by omega) ?_
            refine r_sld hS hL 791 dL_law_790 rfl (4 * k + 1) (by omega) (by omega) ?_
            refine r_topz ((xs (4 * k + 1)).toInt) (iI_of _).symm ?_
            have hbz790 := iI_bd (xs (4 * k + 1))
            refine r_callV1 (st := []) hb ho 794 dL_law_791 rfl ck_L_118 (c_X8_setThreshold N0 B D l nx hs s0 s1 thr (((xs (4 * k + 1)).toInt)) hX (iI_bd _)) rfl rfl ((xo_cell (T := (B, (D, l, nx), hs, s0, s1, thr)) hX)) rfl rfl (by rw [hR0]; exact ⟨Nat.le_of_ble_eq_true rfl, Nat.le_of_ble_eq_true rfl⟩) (Nat.le_of_ble_eq_true rfl) ⟨rfl, rfl⟩ (by rw [hR0]; exact Nat.le_of_ble_eq_true rfl) (by rw [hR0]; exact Nat.le_of_ble_eq_true rfl) (fun vw_791 w_791 nw_791 qw_791 => ?_)
            obtain ⟨rfl, rfl, hX, ow_791⟩ := qw_791
            have hM : mo_ w_791 (N0 + 729) (B, (D, l, nx), hs, s0, s1, thr) := mo_.off hM ow_791 (by omega)
            have hMm := hM
            obtain ⟨rg, g, sp, pa, kp, ik, bg, ln, od, sco, leo, smo, mcM, -⟩ := hMm
            refine r_aload_n hb 795 dL_law_794 rfl 1 rfl ?_
            refine r_aload_n hb 796 dL_law_795 rfl 3 rfl ?_
            refine r_iload_n hb 797 dL_law_796 rfl 0 rfl ?_
            refine r_iconst hb 798 dL_law_797 rfl ?_
            refine r_iaddZ hb 799 (4 * ((k : Nat) : Int) + 1) dL_law_798 rfl (by omega) ?_
            refine r_sld hS hL 800 dL_law_799 rfl (4 * k + 1) (by omega) (by omega) ?_
            refine r_topz ((xs (4 * k + 1)).toInt) (iI_of _).symm ?_
            have hbz799 := iI_bd (xs (4 * k + 1))
            refine r_callV1 (st := [.int ((oThr B D l nx hs s0 s1 thr (((xs (4 * k + 1)).toInt))).1)]) hb ho 803 dL_law_800 rfl ck_L_121 (c_X9_setThreshold (N0 + 729) B D l nx hs s0 s1 thr (((xs (4 * k + 1)).toInt)) hM (iI_bd _)) rfl rfl (mcM) rfl rfl (by rw [hR0]; exact ⟨Nat.le_of_ble_eq_true rfl, Nat.le_of_ble_eq_true rfl⟩) (Nat.le_of_ble_eq_true rfl) ⟨rfl, rfl⟩ (by rw [hR0]; exact Nat.le_of_ble_eq_true rfl) (by rw [hR0]; exact Nat.le_of_ble_eq_true rfl) (fun vw_800 w_800 nw_800 qw_800 => ?_)
            obtain ⟨rfl, rfl, hM, ow_800⟩ := qw_800
            have hX := xo.off hX ow_800 (by omega)
            refine r_icmpR_eq hb 806 868 dL_law_803 rfl (by decide) (fun c803 => ?_) (fun c803 => ?_)
            · refine r_iinc [(3, .int (iI (4 * ((k : Nat) : Int) + 4))), (2, .ref (N0 + 729)), (1, .ref N0), (0, .ref b)] hb 871 4 0 dL_law_868 rfl rfl hnL (by decide) (4 * ((k : Nat) : Int) + 4) (by omega) rfl ?_
              refine r_goto hb 18 dL_law_871 (by decide) ?_
              refine r_lv [(3, .int (iI (4 * ((k + 1 : Nat) : Int)))), (2, .ref (N0 + 729)), (1, .ref N0), (0, .ref b)] [0, 1, 2, 3] (congrArg (fun zz : Int => ([(3, .int (iI zz)), (2, .ref (N0 + 729)), (1, .ref N0), (0, .ref b)] : List (Nat × Value))) (show (4 * ((k : Nat) : Int) + 4) = (4 * ((k + 1 : Nat) : Int)) from by omega)) ?_
              exact ih_lp (600 - (k + 1)) (by omega) (k + 1) _ ((oThr B D l nx hs s0 s1 thr (((xs (4 * k + 1)).toInt))).2) rfl (by omega) hX hM (ok_thr hsk (((xs (4 * k + 1)).toInt)))
            · exact absurd rfl c803
          · refine r_tsw hb 808 dL_law_32 26 hk26 (by decide) (by decide) rfl (by decide) ?_
            refine r_aload_n hb 809 dL_law_808 rfl 2 rfl ?_
            refine r_aload_n hb 810 dL_law_809 rfl 3 rfl ?_
            refine r_iload_n hb 811 dL_law_810 rfl 0 rfl ?_
            refine r_iconst hb 812 dL_law_811 rfl ?_
            refine r_iaddZ hb 813 (4 * ((k : Nat) : Int) + 1) dL_law_812 rfl (by omega) ?_
            refine r_sld hS hL 814 dL_law_813 rfl (4 * k + 1) (by omega) (by omega) ?_
            refine r_topz ((xs (4 * k + 1)).toInt) (iI_of _).symm ?_
            have hbz813 := iI_bd (xs (4 * k + 1))
            refine r_callV1 (st := []) hb ho 817 dL_law_814 rfl ck_L_122 (c_X8_save N0 B D l nx hs s0 s1 thr (((xs (4 * k + 1)).toInt)) hX (iI_bd _)) rfl rfl ((xo_cell (T := (B, (D, l, nx), hs, s0, s1, thr)) hX)) rfl rfl (by rw [hR0]; exact ⟨Nat.le_of_ble_eq_true rfl, Nat.le_of_ble_eq_true rfl⟩) (Nat.le_of_ble_eq_true rfl) ⟨rfl, rfl⟩ (by rw [hR0]; exact Nat.le_of_ble_eq_true rfl) (by rw [hR0]; exact Nat.le_of_ble_eq_true rfl) (fun vw_814 w_814 nw_814 qw_814 => ?_)
            obtain ⟨rfl, rfl, hX, ow_814⟩ := qw_814
            have hM : mo_ w_814 (N0 + 729) (B, (D, l, nx), hs, s0, s1, thr) := mo_.off hM ow_814 (by omega)
            have hMm := hM
            obtain ⟨rg, g, sp, pa, kp, ik, bg, ln, od, sco, leo, smo, mcM, -⟩ := hMm
            refine r_aload_n hb 818 dL_law_817 rfl 1 rfl ?_
            refine r_aload_n hb 819 dL_law_818 rfl 3 rfl ?_
            refine r_iload_n hb 820 dL_law_819 rfl 0 rfl ?_
            refine r_iconst hb 821 dL_law_820 rfl ?_
            refine r_iaddZ hb 822 (4 * ((k : Nat) : Int) + 1) dL_law_821 rfl (by omega) ?_
            refine r_sld hS hL 823 dL_law_822 rfl (4 * k + 1) (by omega) (by omega) ?_
            refine r_topz ((xs (4 * k + 1)).toInt) (iI_of _).symm ?_
            have hbz822 := iI_bd (xs (4 * k + 1))
            refine r_callV1 (st := [.int ((oSav B D l nx hs s0 s1 thr (((xs (4 * k + 1)).toInt))).1)]) hb ho 826 dL_law_823 rfl ck_L_125 (c_X9_save (N0 + 729) B D l nx hs s0 s1 thr (((xs (4 * k + 1)).toInt)) hM (iI_bd _)) rfl rfl (mcM) rfl rfl (by rw [hR0]; exact ⟨Nat.le_of_ble_eq_true rfl, Nat.le_of_ble_eq_true rfl⟩) (Nat.le_of_ble_eq_true rfl) ⟨rfl, rfl⟩ (by rw [hR0]; exact Nat.le_of_ble_eq_true rfl) (by rw [hR0]; exact Nat.le_of_ble_eq_true rfl) (fun vw_823 w_823 nw_823 qw_823 => ?_)
            obtain ⟨rfl, rfl, hM, ow_823⟩ := qw_823
            have hX := xo.off hX ow_823 (by omega)
            refine r_icmpR_eq hb 829 868 dL_law_826 rfl (by decide) (fun c826 => ?_) (fun c826 => ?_)
            · refine r_iinc [(3, .int (iI (4 * ((k : Nat) : Int) + 4))), (2, .ref (N0 + 729)), (1, .ref N0), (0, .ref b)] hb 871 4 0 dL_law_868 rfl rfl hnL (by decide) (4 * ((k : Nat) : Int) + 4) (by omega) rfl ?_
              refine r_goto hb 18 dL_law_871 (by decide) ?_
              refine r_lv [(3, .int (iI (4 * ((k + 1 : Nat) : Int)))), (2, .ref (N0 + 729)), (1, .ref N0), (0, .ref b)] [0, 1, 2, 3] (congrArg (fun zz : Int => ([(3, .int (iI zz)), (2, .ref (N0 + 729)), (1, .ref N0), (0, .ref b)] : List (Nat × Value))) (show (4 * ((k : Nat) : Int) + 4) = (4 * ((k + 1 : Nat) : Int)) from by omega)) ?_
              exact ih_lp (600 - (k + 1)) (by omega) (k + 1) _ ((oSav B D l nx hs s0 s1 thr (((xs (4 * k + 1)).toInt))).2) rfl (by omega) hX hM (ok_sav hsk (((xs (4 * k + 1)).toInt)))
            · exact absurd rfl c826
          · refine r_tsw hb 831 dL_law_32 27 hk27 (by decide) (by decide) rfl (by decide) ?_
            refine r_aload_n hb 832 dL_law_831 rfl 2 rfl ?_
            refine r_aload_n hb 833 dL_law_832 rfl 3 rfl ?_
            refine r_iload_n hb 834 dL_law_833 rfl 0 rfl ?_
            refine r_iconst hb 835 dL_law_834 rfl ?_
            refine r_iaddZ hb 836 (4 * ((k : Nat) : Int) + 1) dL_law_835 rfl (by omega) ?_
            refine r_sld hS hL 837 dL_law_836 rfl (4 * k + 1) (by omega) (by omega) ?_
            refine r_topz ((xs (4 * k + 1)).toInt) (iI_of _).symm ?_
            have hbz836 := iI_bd (xs (4 * k + 1))
            refine r_callV1 (st := []) hb ho 840 dL_law_837 rfl ck_L_126 (c_X8_restore N0 B D l nx hs s0 s1 thr (((xs (4 * k + 1)).toInt)) hX (iI_bd _)) rfl rfl ((xo_cell (T := (B, (D, l, nx), hs, s0, s1, thr)) hX)) rfl rfl (by rw [hR0]; exact ⟨Nat.le_of_ble_eq_true rfl, Nat.le_of_ble_eq_true rfl⟩) (Nat.le_of_ble_eq_true rfl) ⟨rfl, rfl⟩ (by rw [hR0]; exact Nat.le_of_ble_eq_true rfl) (by rw [hR0]; exact Nat.le_of_ble_eq_true rfl) (fun vw_837 w_837 nw_837 qw_837 => ?_)
            obtain ⟨rfl, rfl, hX, ow_837⟩ := qw_837
            have hM : mo_ w_837 (N0 + 729) (B, (D, l, nx), hs, s0, s1, thr) := mo_.off hM ow_837 (by omega)
            have hMm := hM
            obtain ⟨rg, g, sp, pa, kp, ik, bg, ln, od, sco, leo, smo, mcM, -⟩ := hMm
            refine r_aload_n hb 841 dL_law_840 rfl 1 rfl ?_
            refine r_aload_n hb 842 dL_law_841 rfl 3 rfl ?_
            refine r_iload_n hb 843 dL_law_842 rfl 0 rfl ?_
            refine r_iconst hb 844 dL_law_843 rfl ?_
            refine r_iaddZ hb 845 (4 * ((k : Nat) : Int) + 1) dL_law_844 rfl (by omega) ?_
            refine r_sld hS hL 846 dL_law_845 rfl (4 * k + 1) (by omega) (by omega) ?_
            refine r_topz ((xs (4 * k + 1)).toInt) (iI_of _).symm ?_
            have hbz845 := iI_bd (xs (4 * k + 1))
            refine r_callV1 (st := [.int ((oRes B D l nx hs s0 s1 thr (((xs (4 * k + 1)).toInt))).1)]) hb ho 849 dL_law_846 rfl ck_L_129 (c_X9_restore (N0 + 729) B D l nx hs s0 s1 thr (((xs (4 * k + 1)).toInt)) hM (iI_bd _)) rfl rfl (mcM) rfl rfl (by rw [hR0]; exact ⟨Nat.le_of_ble_eq_true rfl, Nat.le_of_ble_eq_true rfl⟩) (Nat.le_of_ble_eq_true rfl) ⟨rfl, rfl⟩ (by rw [hR0]; exact Nat.le_of_ble_eq_true rfl) (by rw [hR0]; exact Nat.le_of_ble_eq_true rfl) (fun vw_846 w_846 nw_846 qw_846 => ?_)
            obtain ⟨rfl, rfl, hM, ow_846⟩ := qw_846
            have hX := xo.off hX ow_846 (by omega)
            refine r_icmpR_eq hb 852 868 dL_law_849 rfl (by decide) (fun c849 => ?_) (fun c849 => ?_)
            · refine r_iinc [(3, .int (iI (4 * ((k : Nat) : Int) + 4))), (2, .ref (N0 + 729)), (1, .ref N0), (0, .ref b)] hb 871 4 0 dL_law_868 rfl rfl hnL (by decide) (4 * ((k : Nat) : Int) + 4) (by omega) rfl ?_
              refine r_goto hb 18 dL_law_871 (by decide) ?_
              refine r_lv [(3, .int (iI (4 * ((k + 1 : Nat) : Int)))), (2, .ref (N0 + 729)), (1, .ref N0), (0, .ref b)] [0, 1, 2, 3] (congrArg (fun zz : Int => ([(3, .int (iI zz)), (2, .ref (N0 + 729)), (1, .ref N0), (0, .ref b)] : List (Nat × Value))) (show (4 * ((k : Nat) : Int) + 4) = (4 * ((k + 1 : Nat) : Int)) from by omega)) ?_
              exact ih_lp (600 - (k + 1)) (by omega) (k + 1) _ ((oRes B D l nx hs s0 s1 thr (((xs (4 * k + 1)).toInt))).2) rfl (by omega) hX hM (ok_res hsk (((xs (4 * k + 1)).toInt)))
            · exact absurd rfl c849
          · refine r_tsw hb 854 dL_law_32 28 hk28 (by decide) (by decide) rfl (by decide) ?_
            refine r_aload_n hb 855 dL_law_854 rfl 2 rfl ?_
            refine r_callV1 (st := []) hb ho 858 dL_law_855 rfl ck_L_130 (c_X8_checksum N0 B D l nx hs s0 s1 thr  hX hok) rfl rfl ((xo_cell (T := (B, (D, l, nx), hs, s0, s1, thr)) hX)) rfl rfl (by rw [hR0]; exact ⟨Nat.le_of_ble_eq_true rfl, Nat.le_of_ble_eq_true rfl⟩) (Nat.le_of_ble_eq_true rfl) ⟨rfl, rfl⟩ (by rw [hR0]; exact Nat.le_of_ble_eq_true rfl) (by rw [hR0]; exact Nat.le_of_ble_eq_true rfl) (fun vw_855 w_855 nw_855 qw_855 => ?_)
            obtain ⟨rfl, rfl, hX, ow_855⟩ := qw_855
            have hM : mo_ w_855 (N0 + 729) (B, (D, l, nx), hs, s0, s1, thr) := mo_.off hM ow_855 (by omega)
            have hMm := hM
            obtain ⟨rg, g, sp, pa, kp, ik, bg, ln, od, sco, leo, smo, mcM, -⟩ := hMm
            refine r_aload_n hb 859 dL_law_858 rfl 1 rfl ?_
            refine r_callV1 (st := [.long (oSum D l)]) hb ho 862 dL_law_859 rfl ck_L_134 (c_X9_checksum (N0 + 729) B D l nx hs s0 s1 thr  hM hok) rfl rfl (mcM) rfl rfl (by rw [hR0]; exact ⟨Nat.le_of_ble_eq_true rfl, Nat.le_of_ble_eq_true rfl⟩) (Nat.le_of_ble_eq_true rfl) ⟨rfl, rfl⟩ (by rw [hR0]; exact Nat.le_of_ble_eq_true rfl) (by rw [hR0]; exact Nat.le_of_ble_eq_true rfl) (fun vw_859 w_859 nw_859 qw_859 => ?_)
            obtain ⟨rfl, rfl, hM, ow_859⟩ := qw_859
            have hX := xo.off hX ow_859 (by omega)
            refine r_lcmp hb 863 dL_law_862 rfl ?_
            refine r_if0_eq hb 866 868 dL_law_863 rfl (by decide) (fun c863 => ?_) (fun c863 => ?_)
            · refine r_iinc [(3, .int (iI (4 * ((k : Nat) : Int) + 4))), (2, .ref (N0 + 729)), (1, .ref N0), (0, .ref b)] hb 871 4 0 dL_law_868 rfl rfl hnL (by decide) (4 * ((k : Nat) : Int) + 4) (by omega) rfl ?_
              refine r_goto hb 18 dL_law_871 (by decide) ?_
              refine r_lv [(3, .int (iI (4 * ((k + 1 : Nat) : Int)))), (2, .ref (N0 + 729)), (1, .ref N0), (0, .ref b)] [0, 1, 2, 3] (congrArg (fun zz : Int => ([(3, .int (iI zz)), (2, .ref (N0 + 729)), (1, .ref N0), (0, .ref b)] : List (Nat × Value))) (show (4 * ((k : Nat) : Int) + 4) = (4 * ((k + 1 : Nat) : Int)) from by omega)) ?_
              exact ih_lp (600 - (k + 1)) (by omega) (k + 1) _ ((B, (D, l, nx), hs, s0, s1, thr)) rfl (by omega) hX hM (hsk.up (Nat.le_succ k))
            · exact absurd (lg_cmp_self _) c863
  refine r_widen 741 99999 (by decide) (by decide) ?_
  refine r_lv [(3, .int (iI (4 * ((0 : Nat) : Int)))), (2, .ref (N0 + 729)), (1, .ref N0), (0, .ref b)] [0, 1, 2, 3] rfl ?_
  exact lp _ 0 _ ([], ([], [], 0), [], none, none, 60) rfl (by omega) hX hM sOk_0
