abbrev rm_X9_moreOfPart : Room := { frames := 1, cells := 0, slots := 0, locals := 22 }
set_option maxHeartbeats 4000000 in
set_option maxRecDepth 100000 in
theorem c_X9_moreOfPart (mo : Nat) (rg : Nat → Int) (g : Nat → Int32) (k0 : Int64) (k t : Nat) (L : List Int32) {w : PW} {n : Nat} (mc : w mo = some (mE mo rg)) (vc : w (mo + 1) = some (eI 483 g)) (hL : vtx g (123 + 36 * k + t) L) (h1 : k < 10 ∧ L.length ≤ 16 ∧ t + 1 + L.length ≤ 36) : CtR yX9_moreOfPart cX9_moreOfPart 8 (some .long) rm_X9_moreOfPart [.ref mo, .long (k0), .int (iI (((k : Nat) : Int))), .int (iI (((t : Nat) : Int)))] w n (.long (mixT k0 L L.length)) := by
  refine Ctr.of rfl (Nat.le_of_ble_eq_true rfl) fun S hS => ?_
  have hb : S.1.1 = cX9_moreOfPart := by rw [hS]; rfl
  have ho : S.1.2.1 = RX9 := by rw [hS]; rfl
  have hnL : S.1.2.2.1 = 8 := by rw [hS]; rfl
  have hR0 : S.2.1 = rm_X9_moreOfPart := by rw [hS]; rfl
  show Wp S 0 [(0, .ref mo), (1, .long (k0)), (3, .int (iI (((k : Nat) : Int)))), (4, .int (iI (((t : Nat) : Int))))] [] w n 0 0
  refine r_lload_n hb 1 dX9_moreOfPart_0 rfl 1 rfl ?_
  refine r_lstore [(5, .long (k0)), (0, .ref mo), (1, .long (k0)), (3, .int (iI (((k : Nat) : Int)))), (4, .int (iI (((t : Nat) : Int))))] hb 3 8 dX9_moreOfPart_1 rfl hnL (by decide) rfl ?_
  refine r_iconst hb 4 dX9_moreOfPart_3 rfl ?_
  refine r_istore [(7, .int (iI 1)), (5, .long (k0)), (0, .ref mo), (1, .long (k0)), (3, .int (iI (((k : Nat) : Int)))), (4, .int (iI (((t : Nat) : Int))))] hb 6 8 dX9_moreOfPart_4 rfl hnL (by decide) rfl ?_
  have lp : ∀ (d : Nat) (i : Nat), L.length - i = d → (i ≤ L.length) → Wp S 6 [(7, .int (iI (((i : Nat) : Int) + 1))), (5, .long (mixT k0 L i)), (0, .ref mo), (1, .long (k0)), (3, .int (iI (((k : Nat) : Int)))), (4, .int (iI (((t : Nat) : Int))))] [] w n 0 0 := by
    intro d
    induction d using Nat.strongRecOn with
    | _ d ih_lp =>
      intro i hd_lp hi
      refine r_iload hb 8 dX9_moreOfPart_6 rfl 0 rfl ?_
      refine r_aload_n hb 9 dX9_moreOfPart_8 rfl 2 rfl ?_
      refine r_get hb ho 12 dX9_moreOfPart_9 rfl lk_X9_7 pf_X9_0 mc rfl ?_
      refine r_iload_n hb 13 dX9_moreOfPart_12 rfl 4 rfl ?_
      refine r_iload hb 15 dX9_moreOfPart_13 rfl 5 rfl ?_
      refine r_callSR (st := [.ref (mo + 1), .int (iI (((i : Nat) : Int) + 1))]) hb ho 18 dX9_moreOfPart_15 rfl ck_X9_48 (c_X9_at (((k : Nat) : Int)) (((t : Nat) : Int)) (36 * ((k : Nat) : Int) + ((t : Nat) : Int) + 123) (by omega)) rfl rfl (by rw [hR0]; exact ⟨Nat.le_of_ble_eq_true rfl, Nat.le_of_ble_eq_true rfl⟩) (Nat.le_of_ble_eq_true rfl) ⟨rfl, rfl⟩ (by rw [hR0]; exact Nat.zero_le _) (by rw [hR0]; exact Nat.zero_le _) ?_
      refine r_iald hb 19 dX9_moreOfPart_18 rfl vc (123 + 36 * k + t) (by omega) (⟨by omega, by omega⟩) ?_
      refine r_topz (((L.length : Nat) : Int)) (hL.1) ?_
      refine r_icmp_gt hb 22 49 dX9_moreOfPart_19 rfl (by decide) (by omega) (by omega) (fun c19 => ?_) (fun c19 => ?_)
      · refine r_lload hb 51 dX9_moreOfPart_49 rfl 1 rfl ?_
        refine r_lret hS dX9_moreOfPart_51 rfl (Nat.zero_le _) (Nat.zero_le _) ?_
        rw [show i = L.length by omega]
        exact ⟨_, rfl, rfl, rfl, rfl⟩
      · refine r_lload hb 24 dX9_moreOfPart_22 rfl 1 rfl ?_
        refine r_aload_n hb 25 dX9_moreOfPart_24 rfl 2 rfl ?_
        refine r_get hb ho 28 dX9_moreOfPart_25 rfl lk_X9_7 pf_X9_0 mc rfl ?_
        refine r_iload_n hb 29 dX9_moreOfPart_28 rfl 4 rfl ?_
        refine r_iload hb 31 dX9_moreOfPart_29 rfl 5 rfl ?_
        refine r_iload hb 33 dX9_moreOfPart_31 rfl 0 rfl ?_
        refine r_iaddZ hb 34 (((t : Nat) : Int) + ((i : Nat) : Int) + 1) dX9_moreOfPart_33 rfl (by omega) ?_
        refine r_callSR (st := [.ref (mo + 1), .long (mixT k0 L i)]) hb ho 37 dX9_moreOfPart_34 rfl ck_X9_48 (c_X9_at (((k : Nat) : Int)) (((t : Nat) : Int) + ((i : Nat) : Int) + 1) (36 * ((k : Nat) : Int) + ((t : Nat) : Int) + ((i : Nat) : Int) + 124) (by omega)) rfl rfl (by rw [hR0]; exact ⟨Nat.le_of_ble_eq_true rfl, Nat.le_of_ble_eq_true rfl⟩) (Nat.le_of_ble_eq_true rfl) ⟨rfl, rfl⟩ (by rw [hR0]; exact Nat.zero_le _) (by rw [hR0]; exact Nat.zero_le _) ?_
        refine r_iald hb 38 dX9_moreOfPart_37 rfl vc (123 + 36 * k + t + 1 + i) (by omega) (⟨by omega, by omega⟩) ?_
        refine r_topv (.int (L.getD i 0)) (congrArg Value.int (hL.2 i (by omega))) ?_
        refine r_callSR (st := []) hb ho 41 dX9_moreOfPart_38 rfl ck_X9_179 (c_X9_more (mixT k0 L i) (L.getD i 0)) rfl rfl (by rw [hR0]; exact ⟨Nat.le_of_ble_eq_true rfl, Nat.le_of_ble_eq_true rfl⟩) (Nat.le_of_ble_eq_true rfl) ⟨rfl, rfl⟩ (by rw [hR0]; exact Nat.zero_le _) (by rw [hR0]; exact Nat.zero_le _) ?_
        refine r_lstore [(5, .long (mixL (mixT k0 L i) (L.getD i 0))), (7, .int (iI (((i : Nat) : Int) + 1))), (0, .ref mo), (1, .long (k0)), (3, .int (iI (((k : Nat) : Int)))), (4, .int (iI (((t : Nat) : Int))))] hb 43 8 dX9_moreOfPart_41 rfl hnL (by decide) rfl ?_
        refine r_iinc [(7, .int (iI (((i : Nat) : Int) + 2))), (5, .long (mixL (mixT k0 L i) (L.getD i 0))), (0, .ref mo), (1, .long (k0)), (3, .int (iI (((k : Nat) : Int)))), (4, .int (iI (((t : Nat) : Int))))] hb 46 8 1 dX9_moreOfPart_43 rfl rfl hnL (by decide) (((i : Nat) : Int) + 2) (by omega) rfl ?_
        refine r_goto hb 6 dX9_moreOfPart_46 (by decide) ?_
        refine r_lv [(7, .int (iI (((i + 1 : Nat) : Int) + 1))), (5, .long (mixT k0 L (i + 1))), (0, .ref mo), (1, .long (k0)), (3, .int (iI (((k : Nat) : Int)))), (4, .int (iI (((t : Nat) : Int))))] [0, 1, 2, 3, 4, 5] rfl ?_
        exact ih_lp (L.length - (i + 1)) (by omega) (i + 1) rfl (by omega)
  refine r_lv [(7, .int (iI (((0 : Nat) : Int) + 1))), (5, .long (mixT k0 L 0)), (0, .ref mo), (1, .long (k0)), (3, .int (iI (((k : Nat) : Int)))), (4, .int (iI (((t : Nat) : Int))))] [0, 1, 2, 3, 4, 5] rfl ?_
  exact lp _ 0 rfl (Nat.zero_le _)

def hdN (x : Nt) (t : Nat) : Int32 := if t = 0 then iI ((nNum x : Nat) : Int) else if t = 1 then bI (nK x) else if t = 2 then iI ((nB x : Nat) : Int) else if t = 3 then iI ((nE x : Nat) : Int) else nW x
theorem vnt_hd {g : Nat → Int32} {b : Nat} {x : Nt} (h : vnt g b x) {t : Nat} (ht : t ≤ 4) : g (b + t) = hdN x t := by
  obtain ⟨h0, h1, h2, h3, h4, -⟩ := h
  unfold hdN
  rcases (show t = 0 ∨ t = 1 ∨ t = 2 ∨ t = 3 ∨ t = 4 by omega) with h | h | h | h | h <;> subst h
  · exact h0
  · exact h1
  · exact h2
  · exact h3
  · exact h4
def mixH (h : Int64) (x : Nt) : Nat → Int64
  | 0 => h
  | t + 1 => mixL (mixH h x t) (hdN x t)
theorem mixN_eq (h : Int64) (D : List Int32) (x : Nt) : mixN h D x = mixL (mixL (mixL (mixT (mixT (mixT (mixH h x 5) (nP x) (nP x).length) (nQ x) (nQ x).length) (nS x) (nS x).length) (iI (gB0 (fB x D)))) (iI (gB1 (fB x D)))) (iI (gB2 (fB x D))) := rfl
abbrev rm_X9_checksum : Room := { frames := 5, cells := 0, slots := 0, locals := 119 }
set_option maxHeartbeats 4000000 in
set_option maxRecDepth 100000 in
theorem c_X9_checksum (mo : Nat) (B D : List Int32) (l : List Nt) (nx : Nat) (hs : List Pg) (s0 s1 : Option (Pg × Int)) (thr : Int)  {w : PW} {n : Nat} (hM : moE w mo B D l nx hs s0 s1 thr) (hok : pOk (D, l, nx)) : Ct1 yX9_checksum cX9_checksum 5 (some .long) rm_X9_checksum [.ref mo] w n (fun v w1 n1 => v = .long (oSum D l) ∧ n = n1 ∧ mo_ w1 mo (B, (D, l, nx), hs, s0, s1, thr) ∧ off w w1 mo (mo + 12)) := by
  obtain ⟨rg, g, sp, pa, kp, ik, bg, ln, od, sco, leo, smo, mc, vc, sc, pc, kc, ic, bc, lc, oc, xc, ec, uc, hV, h3, hH, h6, h8, hB, hS0, hS1⟩ := id hM
  have hD : vdp g D := hV.1
  have hP : vnp g l nx := hV.2
  have hDl := hD.2.2
  have hPl := hP.2.2.1
  have hnx := hP.2.2.2.1
  have hBl := hB.1
  have hHl := hH.1
  refine Ctr.of rfl (Nat.le_of_ble_eq_true rfl) fun S hS => ?_
  have hb : S.1.1 = cX9_checksum := by rw [hS]; rfl
  have ho : S.1.2.1 = RX9 := by rw [hS]; rfl
  have hnL : S.1.2.2.1 = 5 := by rw [hS]; rfl
  have hR0 : S.2.1 = rm_X9_checksum := by rw [hS]; rfl
  show Wp S 0 [(0, .ref mo)] [] w n 0 0
  refine r_ldc2 hb ho 3 dX9_checksum_0 rfl kl_X9_183 ?_
  refine r_aload_n hb 4 dX9_checksum_3 rfl 0 rfl ?_
  refine r_get hb ho 7 dX9_checksum_4 rfl lk_X9_7 pf_X9_0 mc rfl ?_
  refine r_iconst hb 8 dX9_checksum_7 rfl ?_
  refine r_iald hb 9 dX9_checksum_8 rfl vc 0 (by omega) (⟨by omega, by omega⟩) ?_
  refine r_topz ((((D).length : Nat) : Int)) (hD.1) ?_
  refine r_callSR (st := []) hb ho 12 dX9_checksum_9 rfl ck_X9_179 (c_X9_more (61 : Int64) (iI ((((D).length : Nat) : Int)))) rfl rfl (by rw [hR0]; exact ⟨Nat.le_of_ble_eq_true rfl, Nat.le_of_ble_eq_true rfl⟩) (Nat.le_of_ble_eq_true rfl) ⟨rfl, rfl⟩ (by rw [hR0]; exact Nat.zero_le _) (by rw [hR0]; exact Nat.zero_le _) ?_
  refine r_lstore_n [(1, .long (mixL (61 : Int64) (iI ((((D).length : Nat) : Int))))), (0, .ref mo)] hb 13 5 dX9_checksum_12 rfl rfl hnL (by decide) rfl ?_
  refine r_iconst hb 14 dX9_checksum_13 rfl ?_
  refine r_istore_n [(3, .int (iI 0)), (1, .long (mixL (61 : Int64) (iI ((((D).length : Nat) : Int))))), (0, .ref mo)] hb 15 5 dX9_checksum_14 rfl rfl hnL (by decide) rfl ?_
  have lp : ∀ (d : Nat) (i : Nat), D.length - i = d → (i ≤ D.length) → Wp S 15 [(3, .int (iI (((i : Nat) : Int)))), (1, .long (mixT (mixL (61 : Int64) (iI ((D.length : Nat) : Int))) D i)), (0, .ref mo)] [] w n 0 0 := by
    intro d
    induction d using Nat.strongRecOn with
    | _ d ih_lp =>
      intro i hd_lp hi
      refine r_iload_n hb 16 dX9_checksum_15 rfl 0 rfl ?_
      refine r_aload_n hb 17 dX9_checksum_16 rfl 2 rfl ?_
      refine r_get hb ho 20 dX9_checksum_17 rfl lk_X9_7 pf_X9_0 mc rfl ?_
      refine r_iconst hb 21 dX9_checksum_20 rfl ?_
      refine r_iald hb 22 dX9_checksum_21 rfl vc 0 (by omega) (⟨by omega, by omega⟩) ?_
      refine r_topz ((((D).length : Nat) : Int)) (hD.1) ?_
      refine r_icmp_ge hb 25 44 dX9_checksum_22 rfl (by decide) (by omega) (by omega) (fun c22 => ?_) (fun c22 => ?_)
      · have ei : i = D.length := by omega
        rw [ei]
        refine r_lload_n hb 45 dX9_checksum_44 rfl 1 rfl ?_
        refine r_aload_n hb 46 dX9_checksum_45 rfl 2 rfl ?_
        refine r_get hb ho 49 dX9_checksum_46 rfl lk_X9_7 pf_X9_0 mc rfl ?_
        refine r_bipush 122 hb 51 dX9_checksum_49 rfl rfl ?_
        refine r_iald hb 52 dX9_checksum_51 rfl vc 122 (by omega) (⟨by omega, by omega⟩) ?_
        refine r_topz ((((l).length : Nat) : Int)) (hP.2.1) ?_
        refine r_callSR (st := []) hb ho 55 dX9_checksum_52 rfl ck_X9_179 (c_X9_more (mixT (mixL (61 : Int64) (iI ((D.length : Nat) : Int))) D D.length) (iI ((((l).length : Nat) : Int)))) rfl rfl (by rw [hR0]; exact ⟨Nat.le_of_ble_eq_true rfl, Nat.le_of_ble_eq_true rfl⟩) (Nat.le_of_ble_eq_true rfl) ⟨rfl, rfl⟩ (by rw [hR0]; exact Nat.zero_le _) (by rw [hR0]; exact Nat.zero_le _) ?_
        refine r_lstore_n [(1, .long (mixL (mixT (mixL (61 : Int64) (iI ((D.length : Nat) : Int))) D D.length) (iI ((((l).length : Nat) : Int))))), (3, .int (iI (((D.length : Nat) : Int)))), (0, .ref mo)] hb 56 5 dX9_checksum_55 rfl rfl hnL (by decide) rfl ?_
        refine r_iconst hb 57 dX9_checksum_56 rfl ?_
        refine r_istore_n [(3, .int (iI 0)), (1, .long (mixL (mixT (mixL (61 : Int64) (iI ((D.length : Nat) : Int))) D D.length) (iI ((((l).length : Nat) : Int))))), (0, .ref mo)] hb 58 5 dX9_checksum_57 rfl rfl hnL (by decide) rfl ?_
        have lk : ∀ (d : Nat) (k : Nat) (wi : PW) (rgi : Nat → Int) (li : Nat → Nat), l.length - k = d → (k ≤ l.length) → (wi mo = some (eO 9 [.ref (mo + 1), .ref (mo + 2), .ref (mo + 3), .int (iI ((rgi 3))), .ref (mo + 4), .ref (mo + 5), .int (iI ((rgi 6))), .ref (mo + 6), .int (iI ((rgi 8))), .ref (mo + 7), .int (iI ((rgi 10))), .int (iI ((rgi 11))), .int (iI ((rgi 12))), .int (iI ((rgi 13))), .int (iI ((rgi 14))), .ref (mo + 8), .int (iI ((rgi 16))), .ref (mo + 9), .ref (mo + 10), .ref (mo + 11)])) → (wi (mo + 7) = some (eI 17 (fun ii => iI ((li ii : Nat) : Int)))) → (wi (mo + 1) = some (eI 483 g)) → (wi (mo + 2) = some (eI 483 sp)) → (wi (mo + 3) = some (eI 2898 pa)) → (wi (mo + 4) = some (eI 968 kp)) → (wi (mo + 5) = some (eZ 2 ik)) → (wi (mo + 6) = some (eI 40 bg)) → (wi (mo + 8) = some (eI 10 (fun ii => iI ((od ii : Nat) : Int)))) → (wi (mo + 9) = some (eI 1210 (fun ii => iI (sco ii)))) → (wi (mo + 10) = some (eI 1210 (fun ii => iI (leo ii)))) → (wi (mo + 11) = some (eI 1331 (fun ii => iI (smo ii)))) → (∀ i, i < 10 ∨ 15 ≤ i → rgi i = rg i) → (off w wi mo (mo + 12)) → Wp S 58 [(3, .int (iI (((k : Nat) : Int)))), (1, .long (mixP (mixL (mixT (mixL (61 : Int64) (iI ((D.length : Nat) : Int))) D D.length) (iI ((l.length : Nat) : Int))) D l k)), (0, .ref mo)] [] wi n 0 0 := by
          intro d
          induction d using Nat.strongRecOn with
          | _ d ih_lk =>
            intro k wi rgi li hd_lk hk mc lc vc sc pc kc ic bc oc xc ec uc hF hO
            refine r_iload_n hb 59 dX9_checksum_58 rfl 0 rfl ?_
            refine r_aload_n hb 60 dX9_checksum_59 rfl 2 rfl ?_
            refine r_get hb ho 63 dX9_checksum_60 rfl lk_X9_7 pf_X9_0 mc rfl ?_
            refine r_bipush 122 hb 65 dX9_checksum_63 rfl rfl ?_
            refine r_iald hb 66 dX9_checksum_65 rfl vc 122 (by omega) (⟨by omega, by omega⟩) ?_
            refine r_topz ((((l).length : Nat) : Int)) (hP.2.1) ?_
            refine r_icmp_ge hb 69 196 dX9_checksum_66 rfl (by decide) (by omega) (by omega) (fun c66 => ?_) (fun c66 => ?_)
            · refine r_lload_n hb 197 dX9_checksum_196 rfl 1 rfl ?_
              refine r_lret hS dX9_checksum_197 rfl (Nat.zero_le _) (Nat.zero_le _) ?_
              have ek : k = l.length := by omega
              rw [ek]
              exact ⟨_, rfl, rfl, rfl, ⟨rgi, g, sp, pa, kp, ik, bg, li, od, sco, leo, smo, mc, vc, sc, pc, kc, ic, bc, lc, oc, xc, ec, uc, hV, ((hF 3 (by omega)).trans h3), hH, ((hF 6 (by omega)).trans h6), ((hF 8 (by omega)).trans h8), hB, hS0, hS1⟩, hO⟩
            · have hN := hP.2.2.2.2 k (by omega)
              obtain ⟨n0, n1, n2, n3, n4, n5, n6, n7, n8, n9, n10, n11, n12, n13⟩ := id (hN)
              refine r_iconst hb 70 dX9_checksum_69 rfl ?_
              refine r_istore [(4, .int (iI 0)), (3, .int (iI (((k : Nat) : Int)))), (1, .long (mixP (mixL (mixT (mixL (61 : Int64) (iI ((D.length : Nat) : Int))) D D.length) (iI ((l.length : Nat) : Int))) D l k)), (0, .ref mo)] hb 72 5 dX9_checksum_70 rfl hnL (by decide) rfl ?_
              have lt : ∀ (d : Nat) (t : Nat), 5 - t = d → (t ≤ 5) → Wp S 72 [(4, .int (iI (((t : Nat) : Int)))), (3, .int (iI (((k : Nat) : Int)))), (1, .long (mixH (mixP (mixL (mixT (mixL (61 : Int64) (iI ((D.length : Nat) : Int))) D D.length) (iI ((l.length : Nat) : Int))) D l k) (lg l k) t)), (0, .ref mo)] [] wi n 0 0 := by
                intro d
                induction d using Nat.strongRecOn with
                | _ d ih_lt =>
                  intro t hd_lt ht
                  refine r_iload hb 74 dX9_checksum_72 rfl 0 rfl ?_
                  refine r_iconst hb 75 dX9_checksum_74 rfl ?_
                  refine r_icmp_gt hb 78 100 dX9_checksum_75 rfl (by decide) (by omega) (by omega) (fun c75 => ?_) (fun c75 => ?_)
                  · have et : t = 5 := by omega
                    rw [et]
                    refine r_aload_n hb 101 dX9_checksum_100 rfl 3 rfl ?_
                    refine r_aload_n hb 102 dX9_checksum_101 rfl 3 rfl ?_
                    refine r_aload_n hb 103 dX9_checksum_102 rfl 3 rfl ?_
                    refine r_lload_n hb 104 dX9_checksum_103 rfl 2 rfl ?_
                    refine r_iload_n hb 105 dX9_checksum_104 rfl 1 rfl ?_
                    refine r_iconst hb 106 dX9_checksum_105 rfl ?_
                    refine r_callVR (st := [.ref mo, .ref mo]) hb ho 109 dX9_checksum_106 rfl ck_X9_185 (c_X9_moreOfPart mo rgi g (mixH (mixP (mixL (mixT (mixL (61 : Int64) (iI ((D.length : Nat) : Int))) D D.length) (iI ((l.length : Nat) : Int))) D l k) (lg l k) 5) k 5 (nP (lg l k)) mc vc n5 (by omega)) rfl rfl (mc) rfl rfl (by rw [hR0]; exact ⟨Nat.le_of_ble_eq_true rfl, Nat.le_of_ble_eq_true rfl⟩) (Nat.le_of_ble_eq_true rfl) ⟨rfl, rfl⟩ (by rw [hR0]; exact Nat.zero_le _) (by rw [hR0]; exact Nat.zero_le _) ?_
                    refine r_iload_n hb 110 dX9_checksum_109 rfl 1 rfl ?_
                    refine r_bipush 12 hb 112 dX9_checksum_110 rfl rfl ?_
                    refine r_callVR (st := [.ref mo]) hb ho 115 dX9_checksum_112 rfl ck_X9_185 (c_X9_moreOfPart mo rgi g (mixT (mixH (mixP (mixL (mixT (mixL (61 : Int64) (iI ((D.length : Nat) : Int))) D D.length) (iI ((l.length : Nat) : Int))) D l k) (lg l k) 5) (nP (lg l k)) (nP (lg l k)).length) k 12 (nQ (lg l k)) mc vc n6 (by omega)) rfl rfl (mc) rfl rfl (by rw [hR0]; exact ⟨Nat.le_of_ble_eq_true rfl, Nat.le_of_ble_eq_true rfl⟩) (Nat.le_of_ble_eq_true rfl) ⟨rfl, rfl⟩ (by rw [hR0]; exact Nat.zero_le _) (by rw [hR0]; exact Nat.zero_le _) ?_
                    refine r_iload_n hb 116 dX9_checksum_115 rfl 1 rfl ?_
                    refine r_bipush 29 hb 118 dX9_checksum_116 rfl rfl ?_
                    refine r_callVR (st := []) hb ho 121 dX9_checksum_118 rfl ck_X9_185 (c_X9_moreOfPart mo rgi g (mixT (mixT (mixH (mixP (mixL (mixT (mixL (61 : Int64) (iI ((D.length : Nat) : Int))) D D.length) (iI ((l.length : Nat) : Int))) D l k) (lg l k) 5) (nP (lg l k)) (nP (lg l k)).length) (nQ (lg l k)) (nQ (lg l k)).length) k 29 (nS (lg l k)) mc vc n7 (by omega)) rfl rfl (mc) rfl rfl (by rw [hR0]; exact ⟨Nat.le_of_ble_eq_true rfl, Nat.le_of_ble_eq_true rfl⟩) (Nat.le_of_ble_eq_true rfl) ⟨rfl, rfl⟩ (by rw [hR0]; exact Nat.zero_le _) (by rw [hR0]; exact Nat.zero_le _) ?_
                    refine r_lstore_n [(1, .long (mixT (mixT (mixT (mixH (mixP (mixL (mixT (mixL (61 : Int64) (iI ((D.length : Nat) : Int))) D D.length) (iI ((l.length : Nat) : Int))) D l k) (lg l k) 5) (nP (lg l k)) (nP (lg l k)).length) (nQ (lg l k)) (nQ (lg l k)).length) (nS (lg l k)) (nS (lg l k)).length)), (4, .int (iI (((5 : Nat) : Int)))), (3, .int (iI (((k : Nat) : Int)))), (0, .ref mo)] hb 122 5 dX9_checksum_121 rfl rfl hnL (by decide) rfl ?_
                    refine r_aload_n hb 123 dX9_checksum_122 rfl 3 rfl ?_
                    refine r_iload_n hb 124 dX9_checksum_123 rfl 2 rfl ?_
                    have hx : nOk (lg l k) := (hok.2.2.2.1 k (show k < l.length by omega)).1
                    refine r_callV1 (st := []) hb ho 127 dX9_checksum_124 rfl ck_X9_134 (c_X9_findBest mo rgi g li D k (lg l k) mc vc lc hD hN (by omega) hx) rfl rfl (mc) rfl rfl (by rw [hR0]; exact ⟨Nat.le_of_ble_eq_true rfl, Nat.le_of_ble_eq_true rfl⟩) (Nat.le_of_ble_eq_true rfl) ⟨rfl, rfl⟩ (by rw [hR0]; exact Nat.zero_le _) (by rw [hR0]; exact Nat.zero_le _) (fun vw_124 w_124 nw_124 qw_124 => ?_)
                    obtain ⟨rfl, rfl, ⟨rg4, mc, hF4, hB4⟩, ⟨ln4, lc⟩, ow_124⟩ := qw_124
                    have vc : w_124 (mo + 1) = some (eI 483 g) := (ow_124 _ (by omega) (by omega)).trans vc
                    have sc : w_124 (mo + 2) = some (eI 483 sp) := (ow_124 _ (by omega) (by omega)).trans sc
                    have pc : w_124 (mo + 3) = some (eI 2898 pa) := (ow_124 _ (by omega) (by omega)).trans pc
                    have kc : w_124 (mo + 4) = some (eI 968 kp) := (ow_124 _ (by omega) (by omega)).trans kc
                    have ic : w_124 (mo + 5) = some (eZ 2 ik) := (ow_124 _ (by omega) (by omega)).trans ic
                    have bc : w_124 (mo + 6) = some (eI 40 bg) := (ow_124 _ (by omega) (by omega)).trans bc
                    have oc : w_124 (mo + 8) = some (eI 10 (fun ii => iI ((od ii : Nat) : Int))) := (ow_124 _ (by omega) (by omega)).trans oc
                    have xc : w_124 (mo + 9) = some (eI 1210 (fun ii => iI (sco ii))) := (ow_124 _ (by omega) (by omega)).trans xc
                    have ec : w_124 (mo + 10) = some (eI 1210 (fun ii => iI (leo ii))) := (ow_124 _ (by omega) (by omega)).trans ec
                    have uc : w_124 (mo + 11) = some (eI 1331 (fun ii => iI (smo ii))) := (ow_124 _ (by omega) (by omega)).trans uc
                    refine r_istore [(4, .int (bI ((fB (lg l k) D).isSome))), (1, .long (mixT (mixT (mixT (mixH (mixP (mixL (mixT (mixL (61 : Int64) (iI ((D.length : Nat) : Int))) D D.length) (iI ((l.length : Nat) : Int))) D l k) (lg l k) 5) (nP (lg l k)) (nP (lg l k)).length) (nQ (lg l k)) (nQ (lg l k)).length) (nS (lg l k)) (nS (lg l k)).length)), (3, .int (iI (((k : Nat) : Int)))), (0, .ref mo)] hb 129 5 dX9_checksum_127 rfl hnL (by decide) rfl ?_
                    by_cases hb5 : (fB (lg l k) D).isSome = true
                    · obtain ⟨r, hr⟩ := Option.isSome_iff_exists.mp hb5
                      obtain ⟨b0, b1, b2⟩ := hB4 r hr
                      have hfb := fBt_bd hx D D.length (by omega) r hr
                      have hg0 : gB0 (fB (lg l k) D) = r.1 := by rw [hr]; rfl
                      have hg1 : gB1 (fB (lg l k) D) = ((r.2.1 : Nat) : Int) := by rw [hr]; rfl
                      have hg2 : gB2 (fB (lg l k) D) = ((r.2.1 + r.2.2 : Nat) : Int) := by rw [hr]; rfl
                      refine r_lload_n hb 130 dX9_checksum_129 rfl 1 rfl ?_
                      refine r_iload hb 132 dX9_checksum_130 rfl 0 rfl ?_
                      refine r_ifb_eq hb 135 142 dX9_checksum_132 rfl (by decide) (fun c132 => ?_) (fun c132 => ?_)
                      · first | exact absurd c132 hb5 | (rw [hb5] at c132; exact absurd c132 (by decide))
                      · refine r_aload_n hb 136 dX9_checksum_135 rfl 3 rfl ?_
                        refine r_get hb ho 139 dX9_checksum_136 rfl lk_X9_125 pf_X9_12 mc rfl ?_
                        refine r_goto hb 145 dX9_checksum_139 (by decide) ?_
                        refine r_topz (gB0 (fB (lg l k) D)) (congrArg iI (by omega)) ?_
                        refine r_callSR (st := []) hb ho 148 dX9_checksum_145 rfl ck_X9_179 (c_X9_more (mixT (mixT (mixT (mixH (mixP (mixL (mixT (mixL (61 : Int64) (iI ((D.length : Nat) : Int))) D D.length) (iI ((l.length : Nat) : Int))) D l k) (lg l k) 5) (nP (lg l k)) (nP (lg l k)).length) (nQ (lg l k)) (nQ (lg l k)).length) (nS (lg l k)) (nS (lg l k)).length) (iI ((gB0 (fB (lg l k) D))))) rfl rfl (by rw [hR0]; exact ⟨Nat.le_of_ble_eq_true rfl, Nat.le_of_ble_eq_true rfl⟩) (Nat.le_of_ble_eq_true rfl) ⟨rfl, rfl⟩ (by rw [hR0]; exact Nat.zero_le _) (by rw [hR0]; exact Nat.zero_le _) ?_
                        refine r_iload hb 150 dX9_checksum_148 rfl 0 rfl ?_
                        refine r_ifb_eq hb 153 160 dX9_checksum_150 rfl (by decide) (fun c150 => ?_) (fun c150 => ?_)
                        · first | exact absurd c150 hb5 | (rw [hb5] at c150; exact absurd c150 (by decide))
                        · refine r_aload_n hb 154 dX9_checksum_153 rfl 3 rfl ?_
                          refine r_get hb ho 157 dX9_checksum_154 rfl lk_X9_128 pf_X9_13 mc rfl ?_
                          refine r_goto hb 163 dX9_checksum_157 (by decide) ?_
                          refine r_topz (gB1 (fB (lg l k) D)) (congrArg iI (by omega)) ?_
                          refine r_callSR (st := []) hb ho 166 dX9_checksum_163 rfl ck_X9_179 (c_X9_more (mixL (mixT (mixT (mixT (mixH (mixP (mixL (mixT (mixL (61 : Int64) (iI ((D.length : Nat) : Int))) D D.length) (iI ((l.length : Nat) : Int))) D l k) (lg l k) 5) (nP (lg l k)) (nP (lg l k)).length) (nQ (lg l k)) (nQ (lg l k)).length) (nS (lg l k)) (nS (lg l k)).length) (iI ((gB0 (fB (lg l k) D))))) (iI ((gB1 (fB (lg l k) D))))) rfl rfl (by rw [hR0]; exact ⟨Nat.le_of_ble_eq_true rfl, Nat.le_of_ble_eq_true rfl⟩) (Nat.le_of_ble_eq_true rfl) ⟨rfl, rfl⟩ (by rw [hR0]; exact Nat.zero_le _) (by rw [hR0]; exact Nat.zero_le _) ?_
                          refine r_iload hb 168 dX9_checksum_166 rfl 0 rfl ?_
                          refine r_ifb_eq hb 171 183 dX9_checksum_168 rfl (by decide) (fun c168 => ?_) (fun c168 => ?_)
                          · first | exact absurd c168 hb5 | (rw [hb5] at c168; exact absurd c168 (by decide))
                          · refine r_aload_n hb 172 dX9_checksum_171 rfl 3 rfl ?_
                            refine r_get hb ho 175 dX9_checksum_172 rfl lk_X9_128 pf_X9_13 mc rfl ?_
                            refine r_aload_n hb 176 dX9_checksum_175 rfl 3 rfl ?_
                            refine r_get hb ho 179 dX9_checksum_176 rfl lk_X9_131 pf_X9_14 mc rfl ?_
                            refine r_iaddZ hb 180 ((rg4 13) + (rg4 14)) dX9_checksum_179 rfl (by omega) ?_
                            refine r_goto hb 186 dX9_checksum_180 (by decide) ?_
                            refine r_topz (gB2 (fB (lg l k) D)) (congrArg iI (by omega)) ?_
                            refine r_callSR (st := []) hb ho 189 dX9_checksum_186 rfl ck_X9_179 (c_X9_more (mixL (mixL (mixT (mixT (mixT (mixH (mixP (mixL (mixT (mixL (61 : Int64) (iI ((D.length : Nat) : Int))) D D.length) (iI ((l.length : Nat) : Int))) D l k) (lg l k) 5) (nP (lg l k)) (nP (lg l k)).length) (nQ (lg l k)) (nQ (lg l k)).length) (nS (lg l k)) (nS (lg l k)).length) (iI ((gB0 (fB (lg l k) D))))) (iI ((gB1 (fB (lg l k) D))))) (iI ((gB2 (fB (lg l k) D))))) rfl rfl (by rw [hR0]; exact ⟨Nat.le_of_ble_eq_true rfl, Nat.le_of_ble_eq_true rfl⟩) (Nat.le_of_ble_eq_true rfl) ⟨rfl, rfl⟩ (by rw [hR0]; exact Nat.zero_le _) (by rw [hR0]; exact Nat.zero_le _) ?_
                            refine r_lstore_n [(1, .long (mixL (mixL (mixL (mixT (mixT (mixT (mixH (mixP (mixL (mixT (mixL (61 : Int64) (iI ((D.length : Nat) : Int))) D D.length) (iI ((l.length : Nat) : Int))) D l k) (lg l k) 5) (nP (lg l k)) (nP (lg l k)).length) (nQ (lg l k)) (nQ (lg l k)).length) (nS (lg l k)) (nS (lg l k)).length) (iI ((gB0 (fB (lg l k) D))))) (iI ((gB1 (fB (lg l k) D))))) (iI ((gB2 (fB (lg l k) D)))))), (4, .int (bI ((fB (lg l k) D).isSome))), (3, .int (iI (((k : Nat) : Int)))), (0, .ref mo)] hb 190 5 dX9_checksum_189 rfl rfl hnL (by decide) rfl ?_
                            refine r_iinc [(3, .int (iI (((k : Nat) : Int) + 1))), (1, .long (mixL (mixL (mixL (mixT (mixT (mixT (mixH (mixP (mixL (mixT (mixL (61 : Int64) (iI ((D.length : Nat) : Int))) D D.length) (iI ((l.length : Nat) : Int))) D l k) (lg l k) 5) (nP (lg l k)) (nP (lg l k)).length) (nQ (lg l k)) (nQ (lg l k)).length) (nS (lg l k)) (nS (lg l k)).length) (iI ((gB0 (fB (lg l k) D))))) (iI ((gB1 (fB (lg l k) D))))) (iI ((gB2 (fB (lg l k) D)))))), (4, .int (bI ((fB (lg l k) D).isSome))), (0, .ref mo)] hb 193 5 2 dX9_checksum_190 rfl rfl hnL (by decide) (((k : Nat) : Int) + 1) (by omega) rfl ?_
                            refine r_goto hb 58 dX9_checksum_193 (by decide) ?_
                            rw [← mixN_eq]
                            refine r_lv [(3, .int (iI (((k + 1 : Nat) : Int)))), (1, .long (mixP (mixL (mixT (mixL (61 : Int64) (iI ((D.length : Nat) : Int))) D D.length) (iI ((l.length : Nat) : Int))) D l (k + 1))), (0, .ref mo)] [0, 1, 3] rfl ?_
                            exact ih_lk (l.length - (k + 1)) (by omega) (k + 1) _ rg4 ln4 rfl (by omega) mc lc vc sc pc kc ic bc oc xc ec uc (fun i hi => (hF4 i hi).trans (hF i hi)) (hO.trans (ow_124.cov (by omega) (by omega) (by omega) (by omega)))
                    · have hno : fB (lg l k) D = none := by cases h : fB (lg l k) D with
                        | none => rfl
                        | some p => rw [h] at hb5; simp at hb5
                      have hg0 : gB0 (fB (lg l k) D) = -1005 := by rw [hno]; rfl
                      have hg1 : gB1 (fB (lg l k) D) = -1005 := by rw [hno]; rfl
                      have hg2 : gB2 (fB (lg l k) D) = -1005 := by rw [hno]; rfl
                      refine r_lload_n hb 130 dX9_checksum_129 rfl 1 rfl ?_
                      refine r_iload hb 132 dX9_checksum_130 rfl 0 rfl ?_
                      refine r_ifb_eq hb 135 142 dX9_checksum_132 rfl (by decide) (fun c132 => ?_) (fun c132 => ?_)
                      · refine r_sipush (-1005) hb 145 dX9_checksum_142 rfl rfl ?_
                        refine r_topz (gB0 (fB (lg l k) D)) (congrArg iI (by omega)) ?_
                        refine r_callSR (st := []) hb ho 148 dX9_checksum_145 rfl ck_X9_179 (c_X9_more (mixT (mixT (mixT (mixH (mixP (mixL (mixT (mixL (61 : Int64) (iI ((D.length : Nat) : Int))) D D.length) (iI ((l.length : Nat) : Int))) D l k) (lg l k) 5) (nP (lg l k)) (nP (lg l k)).length) (nQ (lg l k)) (nQ (lg l k)).length) (nS (lg l k)) (nS (lg l k)).length) (iI ((gB0 (fB (lg l k) D))))) rfl rfl (by rw [hR0]; exact ⟨Nat.le_of_ble_eq_true rfl, Nat.le_of_ble_eq_true rfl⟩) (Nat.le_of_ble_eq_true rfl) ⟨rfl, rfl⟩ (by rw [hR0]; exact Nat.zero_le _) (by rw [hR0]; exact Nat.zero_le _) ?_
                        refine r_iload hb 150 dX9_checksum_148 rfl 0 rfl ?_
                        refine r_ifb_eq hb 153 160 dX9_checksum_150 rfl (by decide) (fun c150 => ?_) (fun c150 => ?_)
                        · refine r_sipush (-1005) hb 163 dX9_checksum_160 rfl rfl ?_
                          refine r_topz (gB1 (fB (lg l k) D)) (congrArg iI (by omega)) ?_
                          refine r_callSR (st := []) hb ho 166 dX9_checksum_163 rfl ck_X9_179 (c_X9_more (mixL (mixT (mixT (mixT (mixH (mixP (mixL (mixT (mixL (61 : Int64) (iI ((D.length : Nat) : Int))) D D.length) (iI ((l.length : Nat) : Int))) D l k) (lg l k) 5) (nP (lg l k)) (nP (lg l k)).length) (nQ (lg l k)) (nQ (lg l k)).length) (nS (lg l k)) (nS (lg l k)).length) (iI ((gB0 (fB (lg l k) D))))) (iI ((gB1 (fB (lg l k) D))))) rfl rfl (by rw [hR0]; exact ⟨Nat.le_of_ble_eq_true rfl, Nat.le_of_ble_eq_true rfl⟩) (Nat.le_of_ble_eq_true rfl) ⟨rfl, rfl⟩ (by rw [hR0]; exact Nat.zero_le _) (by rw [hR0]; exact Nat.zero_le _) ?_
                          refine r_iload hb 168 dX9_checksum_166 rfl 0 rfl ?_
                          refine r_ifb_eq hb 171 183 dX9_checksum_168 rfl (by decide) (fun c168 => ?_) (fun c168 => ?_)
                          · refine r_sipush (-1005) hb 186 dX9_checksum_183 rfl rfl ?_
                            refine r_topz (gB2 (fB (lg l k) D)) (congrArg iI (by omega)) ?_
                            refine r_callSR (st := []) hb ho 189 dX9_checksum_186 rfl ck_X9_179 (c_X9_more (mixL (mixL (mixT (mixT (mixT (mixH (mixP (mixL (mixT (mixL (61 : Int64) (iI ((D.length : Nat) : Int))) D D.length) (iI ((l.length : Nat) : Int))) D l k) (lg l k) 5) (nP (lg l k)) (nP (lg l k)).length) (nQ (lg l k)) (nQ (lg l k)).length) (nS (lg l k)) (nS (lg l k)).length) (iI ((gB0 (fB (lg l k) D))))) (iI ((gB1 (fB (lg l k) D))))) (iI ((gB2 (fB (lg l k) D))))) rfl rfl (by rw [hR0]; exact ⟨Nat.le_of_ble_eq_true rfl, Nat.le_of_ble_eq_true rfl⟩) (Nat.le_of_ble_eq_true rfl) ⟨rfl, rfl⟩ (by rw [hR0]; exact Nat.zero_le _) (by rw [hR0]; exact Nat.zero_le _) ?_
                            refine r_lstore_n [(1, .long (mixL (mixL (mixL (mixT (mixT (mixT (mixH (mixP (mixL (mixT (mixL (61 : Int64) (iI ((D.length : Nat) : Int))) D D.length) (iI ((l.length : Nat) : Int))) D l k) (lg l k) 5) (nP (lg l k)) (nP (lg l k)).length) (nQ (lg l k)) (nQ (lg l k)).length) (nS (lg l k)) (nS (lg l k)).length) (iI ((gB0 (fB (lg l k) D))))) (iI ((gB1 (fB (lg l k) D))))) (iI ((gB2 (fB (lg l k) D)))))), (4, .int (bI ((fB (lg l k) D).isSome))), (3, .int (iI (((k : Nat) : Int)))), (0, .ref mo)] hb 190 5 dX9_checksum_189 rfl rfl hnL (by decide) rfl ?_
                            refine r_iinc [(3, .int (iI (((k : Nat) : Int) + 1))), (1, .long (mixL (mixL (mixL (mixT (mixT (mixT (mixH (mixP (mixL (mixT (mixL (61 : Int64) (iI ((D.length : Nat) : Int))) D D.length) (iI ((l.length : Nat) : Int))) D l k) (lg l k) 5) (nP (lg l k)) (nP (lg l k)).length) (nQ (lg l k)) (nQ (lg l k)).length) (nS (lg l k)) (nS (lg l k)).length) (iI ((gB0 (fB (lg l k) D))))) (iI ((gB1 (fB (lg l k) D))))) (iI ((gB2 (fB (lg l k) D)))))), (4, .int (bI ((fB (lg l k) D).isSome))), (0, .ref mo)] hb 193 5 2 dX9_checksum_190 rfl rfl hnL (by decide) (((k : Nat) : Int) + 1) (by omega) rfl ?_
                            refine r_goto hb 58 dX9_checksum_193 (by decide) ?_
                            rw [← mixN_eq]
                            refine r_lv [(3, .int (iI (((k + 1 : Nat) : Int)))), (1, .long (mixP (mixL (mixT (mixL (61 : Int64) (iI ((D.length : Nat) : Int))) D D.length) (iI ((l.length : Nat) : Int))) D l (k + 1))), (0, .ref mo)] [0, 1, 3] rfl ?_
                            exact ih_lk (l.length - (k + 1)) (by omega) (k + 1) _ rg4 ln4 rfl (by omega) mc lc vc sc pc kc ic bc oc xc ec uc (fun i hi => (hF4 i hi).trans (hF i hi)) (hO.trans (ow_124.cov (by omega) (by omega) (by omega) (by omega)))
                          · first | exact absurd c168 hb5 | (rw [hb5] at c168; exact absurd c168 (by decide))
                        · first | exact absurd c150 hb5 | (rw [hb5] at c150; exact absurd c150 (by decide))
                      · first | exact absurd c132 hb5 | (rw [hb5] at c132; exact absurd c132 (by decide))
                  · refine r_lload_n hb 79 dX9_checksum_78 rfl 2 rfl ?_
                    refine r_aload_n hb 80 dX9_checksum_79 rfl 3 rfl ?_
                    refine r_get hb ho 83 dX9_checksum_80 rfl lk_X9_7 pf_X9_0 mc rfl ?_
                    refine r_iload_n hb 84 dX9_checksum_83 rfl 1 rfl ?_
                    refine r_iload hb 86 dX9_checksum_84 rfl 0 rfl ?_
                    refine r_callSR (st := [.ref (mo + 1), .long (mixH (mixP (mixL (mixT (mixL (61 : Int64) (iI ((D.length : Nat) : Int))) D D.length) (iI ((l.length : Nat) : Int))) D l k) (lg l k) t)]) hb ho 89 dX9_checksum_86 rfl ck_X9_48 (c_X9_at (((k : Nat) : Int)) (((t : Nat) : Int)) (36 * ((k : Nat) : Int) + ((t : Nat) : Int) + 123) (by omega)) rfl rfl (by rw [hR0]; exact ⟨Nat.le_of_ble_eq_true rfl, Nat.le_of_ble_eq_true rfl⟩) (Nat.le_of_ble_eq_true rfl) ⟨rfl, rfl⟩ (by rw [hR0]; exact Nat.zero_le _) (by rw [hR0]; exact Nat.zero_le _) ?_
                    refine r_iald hb 90 dX9_checksum_89 rfl vc (123 + 36 * k + t) (by omega) (⟨by omega, by omega⟩) ?_
                    refine r_topv (.int (hdN (lg l k) t)) (congrArg Value.int (vnt_hd hN (by omega))) ?_
                    refine r_callSR (st := []) hb ho 93 dX9_checksum_90 rfl ck_X9_179 (c_X9_more (mixH (mixP (mixL (mixT (mixL (61 : Int64) (iI ((D.length : Nat) : Int))) D D.length) (iI ((l.length : Nat) : Int))) D l k) (lg l k) t) (hdN (lg l k) t)) rfl rfl (by rw [hR0]; exact ⟨Nat.le_of_ble_eq_true rfl, Nat.le_of_ble_eq_true rfl⟩) (Nat.le_of_ble_eq_true rfl) ⟨rfl, rfl⟩ (by rw [hR0]; exact Nat.zero_le _) (by rw [hR0]; exact Nat.zero_le _) ?_
                    refine r_lstore_n [(1, .long (mixL (mixH (mixP (mixL (mixT (mixL (61 : Int64) (iI ((D.length : Nat) : Int))) D D.length) (iI ((l.length : Nat) : Int))) D l k) (lg l k) t) (hdN (lg l k) t))), (4, .int (iI (((t : Nat) : Int)))), (3, .int (iI (((k : Nat) : Int)))), (0, .ref mo)] hb 94 5 dX9_checksum_93 rfl rfl hnL (by decide) rfl ?_
                    refine r_iinc [(4, .int (iI (((t : Nat) : Int) + 1))), (1, .long (mixL (mixH (mixP (mixL (mixT (mixL (61 : Int64) (iI ((D.length : Nat) : Int))) D D.length) (iI ((l.length : Nat) : Int))) D l k) (lg l k) t) (hdN (lg l k) t))), (3, .int (iI (((k : Nat) : Int)))), (0, .ref mo)] hb 97 5 1 dX9_checksum_94 rfl rfl hnL (by decide) (((t : Nat) : Int) + 1) (by omega) rfl ?_
                    refine r_goto hb 72 dX9_checksum_97 (by decide) ?_
                    refine r_lv [(4, .int (iI (((t + 1 : Nat) : Int)))), (3, .int (iI (((k : Nat) : Int)))), (1, .long (mixH (mixP (mixL (mixT (mixL (61 : Int64) (iI ((D.length : Nat) : Int))) D D.length) (iI ((l.length : Nat) : Int))) D l k) (lg l k) (t + 1))), (0, .ref mo)] [0, 2, 1, 3] rfl ?_
                    exact ih_lt (5 - (t + 1)) (by omega) (t + 1) rfl (by omega)
              refine r_lv [(4, .int (iI (((0 : Nat) : Int)))), (3, .int (iI (((k : Nat) : Int)))), (1, .long (mixH (mixP (mixL (mixT (mixL (61 : Int64) (iI ((D.length : Nat) : Int))) D D.length) (iI ((l.length : Nat) : Int))) D l k) (lg l k) 0)), (0, .ref mo)] [0, 1, 2, 3] rfl ?_
              exact lt _ 0 rfl (Nat.zero_le _)
        refine r_lv [(3, .int (iI (((0 : Nat) : Int)))), (1, .long (mixP (mixL (mixT (mixL (61 : Int64) (iI ((D.length : Nat) : Int))) D D.length) (iI ((l.length : Nat) : Int))) D l 0)), (0, .ref mo)] [0, 1, 2] rfl ?_
        exact lk _ 0 _ rg ln rfl (Nat.zero_le _) mc lc vc sc pc kc ic bc oc xc ec uc (fun i _ => rfl) (off.rfl' _ _ _)
      · refine r_lload_n hb 26 dX9_checksum_25 rfl 1 rfl ?_
        refine r_aload_n hb 27 dX9_checksum_26 rfl 2 rfl ?_
        refine r_get hb ho 30 dX9_checksum_27 rfl lk_X9_7 pf_X9_0 mc rfl ?_
        refine r_iconst hb 31 dX9_checksum_30 rfl ?_
        refine r_iload_n hb 32 dX9_checksum_31 rfl 0 rfl ?_
        refine r_iaddZ hb 33 (((i : Nat) : Int) + 1) dX9_checksum_32 rfl (by omega) ?_
        refine r_iald hb 34 dX9_checksum_33 rfl vc (1 + i) (by omega) (⟨by omega, by omega⟩) ?_
        refine r_topv (.int ((D).getD i 0)) (congrArg Value.int (hD.2.1 i (by omega))) ?_
        refine r_callSR (st := []) hb ho 37 dX9_checksum_34 rfl ck_X9_179 (c_X9_more (mixT (mixL (61 : Int64) (iI ((D.length : Nat) : Int))) D i) ((D).getD i 0)) rfl rfl (by rw [hR0]; exact ⟨Nat.le_of_ble_eq_true rfl, Nat.le_of_ble_eq_true rfl⟩) (Nat.le_of_ble_eq_true rfl) ⟨rfl, rfl⟩ (by rw [hR0]; exact Nat.zero_le _) (by rw [hR0]; exact Nat.zero_le _) ?_
        refine r_lstore_n [(1, .long (mixL (mixT (mixL (61 : Int64) (iI ((D.length : Nat) : Int))) D i) ((D).getD i 0))), (3, .int (iI (((i : Nat) : Int)))), (0, .ref mo)] hb 38 5 dX9_checksum_37 rfl rfl hnL (by decide) rfl ?_
        refine r_iinc [(3, .int (iI (((i : Nat) : Int) + 1))), (1, .long (mixL (mixT (mixL (61 : Int64) (iI ((D.length : Nat) : Int))) D i) ((D).getD i 0))), (0, .ref mo)] hb 41 5 1 dX9_checksum_38 rfl rfl hnL (by decide) (((i : Nat) : Int) + 1) (by omega) rfl ?_
        refine r_goto hb 15 dX9_checksum_41 (by decide) ?_
        refine r_lv [(3, .int (iI (((i + 1 : Nat) : Int)))), (1, .long (mixT (mixL (61 : Int64) (iI ((D.length : Nat) : Int))) D (i + 1))), (0, .ref mo)] [0, 1, 2] rfl ?_
        exact ih_lp (D.length - (i + 1)) (by omega) (i + 1) rfl (by omega)
  refine r_lv [(3, .int (iI (((0 : Nat) : Int)))), (1, .long (mixT (mixL (61 : Int64) (iI ((D.length : Nat) : Int))) D 0)), (0, .ref mo)] [0, 1, 2] rfl ?_
  exact lp _ 0 rfl (Nat.zero_le _)

abbrev rm_X9_init : Room := { frames := 1, cells := 11, slots := 8652, locals := 12 }
set_option maxHeartbeats 4000000 in
set_option maxRecDepth 100000 in
theorem c_X9_init (mo : Nat) {w : PW}  (h0 : w mo = some (eO 9 [.null, .null, .null, .int (iI 0), .null, .null, .int (iI 0), .null, .int (iI 0), .null, .int (iI 0), .int (iI 0), .int (iI 0), .int (iI 0), .int (iI 0), .null, .int (iI 0), .null, .null, .null])) : Ct0 yX9_init cX9_init 1 none rm_X9_init [.ref mo] w (mo + 1) (fun w1 n1 => n1 = mo + 12 ∧ mo_ w1 mo ([], ([], [], 0), [], none, none, 60) ∧ off w w1 mo (mo + 12)) := by
  refine Ctr.of rfl (Nat.le_of_ble_eq_true rfl) fun S hS => ?_
  have hb : S.1.1 = cX9_init := by rw [hS]; rfl
  have ho : S.1.2.1 = RX9 := by rw [hS]; rfl
  have hnL : S.1.2.2.1 = 1 := by rw [hS]; rfl
  have hR0 : S.2.1 = rm_X9_init := by rw [hS]; rfl
  have hnm : S.1.2.2.2.2 = "<init>" := by rw [hS]; rfl
  show Wp S 0 [(0, .ref mo)] [] w (mo + 1) 0 0
  refine r_aload_n hb 1 dX9_init_0 rfl 0 rfl ?_
  refine r_objInit hb ho 4 dX9_init_1 rfl ck_X9_1 ob_i ob_c (by rw [hR0]; exact Nat.le_of_ble_eq_true rfl) (by rw [hR0]; exact Nat.le_of_ble_eq_true rfl) ?_
  refine r_aload_n hb 5 dX9_init_4 rfl 0 rfl ?_
  refine r_sipush 483 hb 8 dX9_init_5 rfl rfl ?_
  refine r_newI (N := 483) hb 10 dX9_init_8 rfl ka_int (rfl) (by omega) (by rw [hR0]; exact Nat.le_of_ble_eq_true rfl) (by rw [hR0]; exact Nat.le_of_ble_eq_true rfl) (fun w_8 hw_8 => ?_)
  have ow_8 := pset_off hw_8
  have fw_8 : w_8 (mo + 1) = some (eI 483 (fun _ => 0)) := by rw [hw_8]; exact pset_eq _ _ _
  have h0 : w_8 mo = some (eO 9 [.null, .null, .null, .int (iI 0), .null, .null, .int (iI 0), .null, .int (iI 0), .null, .int (iI 0), .int (iI 0), .int (iI 0), .int (iI 0), .int (iI 0), .null, .int (iI 0), .null, .null, .null]) := (ow_8 _ (by omega)).trans h0
  refine r_putF hb ho hnm rfl 13 dX9_init_10 rfl lkw_X9_7 pf_X9_0 h0 (Nat.le_of_ble_eq_true rfl) ⟨rfl, rfl⟩ (fun w_10 hw_10 => ?_)
  have ow_10 := pset_off hw_10
  have xw_10 : w_10 mo = some (eO 9 [.ref ((mo + 1)), .null, .null, .int (iI 0), .null, .null, .int (iI 0), .null, .int (iI 0), .null, .int (iI 0), .int (iI 0), .int (iI 0), .int (iI 0), .int (iI 0), .null, .int (iI 0), .null, .null, .null]) := by rw [hw_10]; exact pset_eq _ _ _
  have fw_8 : w_10 (mo + 1) = some (eI 483 (fun _ => 0)) := (ow_10 _ (by omega)).trans fw_8
  refine r_aload_n hb 14 dX9_init_13 rfl 0 rfl ?_
  refine r_sipush 483 hb 17 dX9_init_14 rfl rfl ?_
  refine r_newI (N := 483) hb 19 dX9_init_17 rfl ka_int (rfl) (by omega) (by rw [hR0]; exact Nat.le_of_ble_eq_true rfl) (by rw [hR0]; exact Nat.le_of_ble_eq_true rfl) (fun w_17 hw_17 => ?_)
  have ow_17 := pset_off hw_17
  have fw_17 : w_17 (mo + 2) = some (eI 483 (fun _ => 0)) := by rw [hw_17]; exact pset_eq _ _ _
  have xw_10 : w_17 mo = some (eO 9 [.ref ((mo + 1)), .null, .null, .int (iI 0), .null, .null, .int (iI 0), .null, .int (iI 0), .null, .int (iI 0), .int (iI 0), .int (iI 0), .int (iI 0), .int (iI 0), .null, .int (iI 0), .null, .null, .null]) := (ow_17 _ (by omega)).trans xw_10
  have fw_8 : w_17 (mo + 1) = some (eI 483 (fun _ => 0)) := (ow_17 _ (by omega)).trans fw_8
  refine r_putF hb ho hnm rfl 22 dX9_init_19 rfl lkw_X9_13 pf_X9_1 xw_10 (Nat.le_of_ble_eq_true rfl) ⟨rfl, rfl⟩ (fun w_19 hw_19 => ?_)
  have ow_19 := pset_off hw_19
  have xw_19 : w_19 mo = some (eO 9 [.ref ((mo + 1)), .ref ((mo + 2)), .null, .int (iI 0), .null, .null, .int (iI 0), .null, .int (iI 0), .null, .int (iI 0), .int (iI 0), .int (iI 0), .int (iI 0), .int (iI 0), .null, .int (iI 0), .null, .null, .null]) := by rw [hw_19]; exact pset_eq _ _ _
  have fw_17 : w_19 (mo + 2) = some (eI 483 (fun _ => 0)) := (ow_19 _ (by omega)).trans fw_17
  have fw_8 : w_19 (mo + 1) = some (eI 483 (fun _ => 0)) := (ow_19 _ (by omega)).trans fw_8
  refine r_aload_n hb 23 dX9_init_22 rfl 0 rfl ?_
  refine r_sipush 2898 hb 26 dX9_init_23 rfl rfl ?_
  refine r_newI (N := 2898) hb 28 dX9_init_26 rfl ka_int (rfl) (by omega) (by rw [hR0]; exact Nat.le_of_ble_eq_true rfl) (by rw [hR0]; exact Nat.le_of_ble_eq_true rfl) (fun w_26 hw_26 => ?_)
  have ow_26 := pset_off hw_26
  have fw_26 : w_26 (mo + 3) = some (eI 2898 (fun _ => 0)) := by rw [hw_26]; exact pset_eq _ _ _
  have xw_19 : w_26 mo = some (eO 9 [.ref ((mo + 1)), .ref ((mo + 2)), .null, .int (iI 0), .null, .null, .int (iI 0), .null, .int (iI 0), .null, .int (iI 0), .int (iI 0), .int (iI 0), .int (iI 0), .int (iI 0), .null, .int (iI 0), .null, .null, .null]) := (ow_26 _ (by omega)).trans xw_19
  have fw_17 : w_26 (mo + 2) = some (eI 483 (fun _ => 0)) := (ow_26 _ (by omega)).trans fw_17
  have fw_8 : w_26 (mo + 1) = some (eI 483 (fun _ => 0)) := (ow_26 _ (by omega)).trans fw_8
  refine r_putF hb ho hnm rfl 31 dX9_init_28 rfl lkw_X9_16 pf_X9_2 xw_19 (Nat.le_of_ble_eq_true rfl) ⟨rfl, rfl⟩ (fun w_28 hw_28 => ?_)
  have ow_28 := pset_off hw_28
  have xw_28 : w_28 mo = some (eO 9 [.ref ((mo + 1)), .ref ((mo + 2)), .ref ((mo + 3)), .int (iI 0), .null, .null, .int (iI 0), .null, .int (iI 0), .null, .int (iI 0), .int (iI 0), .int (iI 0), .int (iI 0), .int (iI 0), .null, .int (iI 0), .null, .null, .null]) := by rw [hw_28]; exact pset_eq _ _ _
  have fw_26 : w_28 (mo + 3) = some (eI 2898 (fun _ => 0)) := (ow_28 _ (by omega)).trans fw_26
  have fw_17 : w_28 (mo + 2) = some (eI 483 (fun _ => 0)) := (ow_28 _ (by omega)).trans fw_17
  have fw_8 : w_28 (mo + 1) = some (eI 483 (fun _ => 0)) := (ow_28 _ (by omega)).trans fw_8
  refine r_aload_n hb 32 dX9_init_31 rfl 0 rfl ?_
  refine r_sipush 968 hb 35 dX9_init_32 rfl rfl ?_
  refine r_newI (N := 968) hb 37 dX9_init_35 rfl ka_int (rfl) (by omega) (by rw [hR0]; exact Nat.le_of_ble_eq_true rfl) (by rw [hR0]; exact Nat.le_of_ble_eq_true rfl) (fun w_35 hw_35 => ?_)
  have ow_35 := pset_off hw_35
  have fw_35 : w_35 (mo + 4) = some (eI 968 (fun _ => 0)) := by rw [hw_35]; exact pset_eq _ _ _
  have xw_28 : w_35 mo = some (eO 9 [.ref ((mo + 1)), .ref ((mo + 2)), .ref ((mo + 3)), .int (iI 0), .null, .null, .int (iI 0), .null, .int (iI 0), .null, .int (iI 0), .int (iI 0), .int (iI 0), .int (iI 0), .int (iI 0), .null, .int (iI 0), .null, .null, .null]) := (ow_35 _ (by omega)).trans xw_28
  have fw_26 : w_35 (mo + 3) = some (eI 2898 (fun _ => 0)) := (ow_35 _ (by omega)).trans fw_26
  have fw_17 : w_35 (mo + 2) = some (eI 483 (fun _ => 0)) := (ow_35 _ (by omega)).trans fw_17
  have fw_8 : w_35 (mo + 1) = some (eI 483 (fun _ => 0)) := (ow_35 _ (by omega)).trans fw_8
  refine r_putF hb ho hnm rfl 40 dX9_init_37 rfl lkw_X9_19 pf_X9_4 xw_28 (Nat.le_of_ble_eq_true rfl) ⟨rfl, rfl⟩ (fun w_37 hw_37 => ?_)
  have ow_37 := pset_off hw_37
  have xw_37 : w_37 mo = some (eO 9 [.ref ((mo + 1)), .ref ((mo + 2)), .ref ((mo + 3)), .int (iI 0), .ref ((mo + 4)), .null, .int (iI 0), .null, .int (iI 0), .null, .int (iI 0), .int (iI 0), .int (iI 0), .int (iI 0), .int (iI 0), .null, .int (iI 0), .null, .null, .null]) := by rw [hw_37]; exact pset_eq _ _ _
  have fw_35 : w_37 (mo + 4) = some (eI 968 (fun _ => 0)) := (ow_37 _ (by omega)).trans fw_35
  have fw_26 : w_37 (mo + 3) = some (eI 2898 (fun _ => 0)) := (ow_37 _ (by omega)).trans fw_26
  have fw_17 : w_37 (mo + 2) = some (eI 483 (fun _ => 0)) := (ow_37 _ (by omega)).trans fw_17
  have fw_8 : w_37 (mo + 1) = some (eI 483 (fun _ => 0)) := (ow_37 _ (by omega)).trans fw_8
  refine r_aload_n hb 41 dX9_init_40 rfl 0 rfl ?_
  refine r_iconst hb 42 dX9_init_41 rfl ?_
  refine r_newZ (N := 2) hb 44 dX9_init_42 rfl ka_boolean (rfl) (by omega) (by rw [hR0]; exact Nat.le_of_ble_eq_true rfl) (by rw [hR0]; exact Nat.le_of_ble_eq_true rfl) (fun w_42 hw_42 => ?_)
  have ow_42 := pset_off hw_42
  have fw_42 : w_42 (mo + 5) = some (eZ 2 (fun _ => 0)) := by rw [hw_42]; exact pset_eq _ _ _
  have xw_37 : w_42 mo = some (eO 9 [.ref ((mo + 1)), .ref ((mo + 2)), .ref ((mo + 3)), .int (iI 0), .ref ((mo + 4)), .null, .int (iI 0), .null, .int (iI 0), .null, .int (iI 0), .int (iI 0), .int (iI 0), .int (iI 0), .int (iI 0), .null, .int (iI 0), .null, .null, .null]) := (ow_42 _ (by omega)).trans xw_37
  have fw_35 : w_42 (mo + 4) = some (eI 968 (fun _ => 0)) := (ow_42 _ (by omega)).trans fw_35
  have fw_26 : w_42 (mo + 3) = some (eI 2898 (fun _ => 0)) := (ow_42 _ (by omega)).trans fw_26
  have fw_17 : w_42 (mo + 2) = some (eI 483 (fun _ => 0)) := (ow_42 _ (by omega)).trans fw_17
  have fw_8 : w_42 (mo + 1) = some (eI 483 (fun _ => 0)) := (ow_42 _ (by omega)).trans fw_8
  refine r_putF hb ho hnm rfl 47 dX9_init_44 rfl lkw_X9_22 pf_X9_5 xw_37 (Nat.le_of_ble_eq_true rfl) ⟨rfl, rfl⟩ (fun w_44 hw_44 => ?_)
  have ow_44 := pset_off hw_44
  have xw_44 : w_44 mo = some (eO 9 [.ref ((mo + 1)), .ref ((mo + 2)), .ref ((mo + 3)), .int (iI 0), .ref ((mo + 4)), .ref ((mo + 5)), .int (iI 0), .null, .int (iI 0), .null, .int (iI 0), .int (iI 0), .int (iI 0), .int (iI 0), .int (iI 0), .null, .int (iI 0), .null, .null, .null]) := by rw [hw_44]; exact pset_eq _ _ _
  have fw_42 : w_44 (mo + 5) = some (eZ 2 (fun _ => 0)) := (ow_44 _ (by omega)).trans fw_42
  have fw_35 : w_44 (mo + 4) = some (eI 968 (fun _ => 0)) := (ow_44 _ (by omega)).trans fw_35
  have fw_26 : w_44 (mo + 3) = some (eI 2898 (fun _ => 0)) := (ow_44 _ (by omega)).trans fw_26
  have fw_17 : w_44 (mo + 2) = some (eI 483 (fun _ => 0)) := (ow_44 _ (by omega)).trans fw_17
  have fw_8 : w_44 (mo + 1) = some (eI 483 (fun _ => 0)) := (ow_44 _ (by omega)).trans fw_8
  refine r_aload_n hb 48 dX9_init_47 rfl 0 rfl ?_
  refine r_bipush 60 hb 50 dX9_init_48 rfl rfl ?_
  refine r_put hb ho 53 dX9_init_50 rfl lk_X9_26 pf_X9_6 xw_44 (Nat.le_of_ble_eq_true rfl) ⟨rfl, rfl⟩ (fun w_50 hw_50 => ?_)
  have ow_50 := pset_off hw_50
  have xw_50 : w_50 mo = some (eO 9 [.ref ((mo + 1)), .ref ((mo + 2)), .ref ((mo + 3)), .int (iI 0), .ref ((mo + 4)), .ref ((mo + 5)), .int (iI 60), .null, .int (iI 0), .null, .int (iI 0), .int (iI 0), .int (iI 0), .int (iI 0), .int (iI 0), .null, .int (iI 0), .null, .null, .null]) := by rw [hw_50]; exact pset_eq _ _ _
  have fw_42 : w_50 (mo + 5) = some (eZ 2 (fun _ => 0)) := (ow_50 _ (by omega)).trans fw_42
  have fw_35 : w_50 (mo + 4) = some (eI 968 (fun _ => 0)) := (ow_50 _ (by omega)).trans fw_35
  have fw_26 : w_50 (mo + 3) = some (eI 2898 (fun _ => 0)) := (ow_50 _ (by omega)).trans fw_26
  have fw_17 : w_50 (mo + 2) = some (eI 483 (fun _ => 0)) := (ow_50 _ (by omega)).trans fw_17
  have fw_8 : w_50 (mo + 1) = some (eI 483 (fun _ => 0)) := (ow_50 _ (by omega)).trans fw_8
  refine r_aload_n hb 54 dX9_init_53 rfl 0 rfl ?_
  refine r_bipush 40 hb 56 dX9_init_54 rfl rfl ?_
  refine r_newI (N := 40) hb 58 dX9_init_56 rfl ka_int (rfl) (by omega) (by rw [hR0]; exact Nat.le_of_ble_eq_true rfl) (by rw [hR0]; exact Nat.le_of_ble_eq_true rfl) (fun w_56 hw_56 => ?_)
  have ow_56 := pset_off hw_56
  have fw_56 : w_56 (mo + 6) = some (eI 40 (fun _ => 0)) := by rw [hw_56]; exact pset_eq _ _ _
  have xw_50 : w_56 mo = some (eO 9 [.ref ((mo + 1)), .ref ((mo + 2)), .ref ((mo + 3)), .int (iI 0), .ref ((mo + 4)), .ref ((mo + 5)), .int (iI 60), .null, .int (iI 0), .null, .int (iI 0), .int (iI 0), .int (iI 0), .int (iI 0), .int (iI 0), .null, .int (iI 0), .null, .null, .null]) := (ow_56 _ (by omega)).trans xw_50
  have fw_42 : w_56 (mo + 5) = some (eZ 2 (fun _ => 0)) := (ow_56 _ (by omega)).trans fw_42
  have fw_35 : w_56 (mo + 4) = some (eI 968 (fun _ => 0)) := (ow_56 _ (by omega)).trans fw_35
  have fw_26 : w_56 (mo + 3) = some (eI 2898 (fun _ => 0)) := (ow_56 _ (by omega)).trans fw_26
  have fw_17 : w_56 (mo + 2) = some (eI 483 (fun _ => 0)) := (ow_56 _ (by omega)).trans fw_17
  have fw_8 : w_56 (mo + 1) = some (eI 483 (fun _ => 0)) := (ow_56 _ (by omega)).trans fw_8
  refine r_putF hb ho hnm rfl 61 dX9_init_58 rfl lkw_X9_30 pf_X9_7 xw_50 (Nat.le_of_ble_eq_true rfl) ⟨rfl, rfl⟩ (fun w_58 hw_58 => ?_)
  have ow_58 := pset_off hw_58
  have xw_58 : w_58 mo = some (eO 9 [.ref ((mo + 1)), .ref ((mo + 2)), .ref ((mo + 3)), .int (iI 0), .ref ((mo + 4)), .ref ((mo + 5)), .int (iI 60), .ref ((mo + 6)), .int (iI 0), .null, .int (iI 0), .int (iI 0), .int (iI 0), .int (iI 0), .int (iI 0), .null, .int (iI 0), .null, .null, .null]) := by rw [hw_58]; exact pset_eq _ _ _
  have fw_56 : w_58 (mo + 6) = some (eI 40 (fun _ => 0)) := (ow_58 _ (by omega)).trans fw_56
  have fw_42 : w_58 (mo + 5) = some (eZ 2 (fun _ => 0)) := (ow_58 _ (by omega)).trans fw_42
  have fw_35 : w_58 (mo + 4) = some (eI 968 (fun _ => 0)) := (ow_58 _ (by omega)).trans fw_35
  have fw_26 : w_58 (mo + 3) = some (eI 2898 (fun _ => 0)) := (ow_58 _ (by omega)).trans fw_26
  have fw_17 : w_58 (mo + 2) = some (eI 483 (fun _ => 0)) := (ow_58 _ (by omega)).trans fw_17
  have fw_8 : w_58 (mo + 1) = some (eI 483 (fun _ => 0)) := (ow_58 _ (by omega)).trans fw_8
  refine r_aload_n hb 62 dX9_init_61 rfl 0 rfl ?_
  refine r_bipush 17 hb 64 dX9_init_62 rfl rfl ?_
  refine r_newI (N := 17) hb 66 dX9_init_64 rfl ka_int (rfl) (by omega) (by rw [hR0]; exact Nat.le_of_ble_eq_true rfl) (by rw [hR0]; exact Nat.le_of_ble_eq_true rfl) (fun w_64 hw_64 => ?_)
  have ow_64 := pset_off hw_64
  have fw_64 : w_64 (mo + 7) = some (eI 17 (fun _ => 0)) := by rw [hw_64]; exact pset_eq _ _ _
  have xw_58 : w_64 mo = some (eO 9 [.ref ((mo + 1)), .ref ((mo + 2)), .ref ((mo + 3)), .int (iI 0), .ref ((mo + 4)), .ref ((mo + 5)), .int (iI 60), .ref ((mo + 6)), .int (iI 0), .null, .int (iI 0), .int (iI 0), .int (iI 0), .int (iI 0), .int (iI 0), .null, .int (iI 0), .null, .null, .null]) := (ow_64 _ (by omega)).trans xw_58
  have fw_56 : w_64 (mo + 6) = some (eI 40 (fun _ => 0)) := (ow_64 _ (by omega)).trans fw_56
  have fw_42 : w_64 (mo + 5) = some (eZ 2 (fun _ => 0)) := (ow_64 _ (by omega)).trans fw_42
  have fw_35 : w_64 (mo + 4) = some (eI 968 (fun _ => 0)) := (ow_64 _ (by omega)).trans fw_35
  have fw_26 : w_64 (mo + 3) = some (eI 2898 (fun _ => 0)) := (ow_64 _ (by omega)).trans fw_26
  have fw_17 : w_64 (mo + 2) = some (eI 483 (fun _ => 0)) := (ow_64 _ (by omega)).trans fw_17
  have fw_8 : w_64 (mo + 1) = some (eI 483 (fun _ => 0)) := (ow_64 _ (by omega)).trans fw_8
  refine r_putF hb ho hnm rfl 69 dX9_init_66 rfl lkw_X9_33 pf_X9_9 xw_58 (Nat.le_of_ble_eq_true rfl) ⟨rfl, rfl⟩ (fun w_66 hw_66 => ?_)
  have ow_66 := pset_off hw_66
  have xw_66 : w_66 mo = some (eO 9 [.ref ((mo + 1)), .ref ((mo + 2)), .ref ((mo + 3)), .int (iI 0), .ref ((mo + 4)), .ref ((mo + 5)), .int (iI 60), .ref ((mo + 6)), .int (iI 0), .ref ((mo + 7)), .int (iI 0), .int (iI 0), .int (iI 0), .int (iI 0), .int (iI 0), .null, .int (iI 0), .null, .null, .null]) := by rw [hw_66]; exact pset_eq _ _ _
  have fw_64 : w_66 (mo + 7) = some (eI 17 (fun _ => 0)) := (ow_66 _ (by omega)).trans fw_64
  have fw_56 : w_66 (mo + 6) = some (eI 40 (fun _ => 0)) := (ow_66 _ (by omega)).trans fw_56
  have fw_42 : w_66 (mo + 5) = some (eZ 2 (fun _ => 0)) := (ow_66 _ (by omega)).trans fw_42
  have fw_35 : w_66 (mo + 4) = some (eI 968 (fun _ => 0)) := (ow_66 _ (by omega)).trans fw_35
  have fw_26 : w_66 (mo + 3) = some (eI 2898 (fun _ => 0)) := (ow_66 _ (by omega)).trans fw_26
  have fw_17 : w_66 (mo + 2) = some (eI 483 (fun _ => 0)) := (ow_66 _ (by omega)).trans fw_17
  have fw_8 : w_66 (mo + 1) = some (eI 483 (fun _ => 0)) := (ow_66 _ (by omega)).trans fw_8
  refine r_aload_n hb 70 dX9_init_69 rfl 0 rfl ?_
  refine r_bipush 10 hb 72 dX9_init_70 rfl rfl ?_
  refine r_newI (N := 10) hb 74 dX9_init_72 rfl ka_int (rfl) (by omega) (by rw [hR0]; exact Nat.le_of_ble_eq_true rfl) (by rw [hR0]; exact Nat.le_of_ble_eq_true rfl) (fun w_72 hw_72 => ?_)
  have ow_72 := pset_off hw_72
  have fw_72 : w_72 (mo + 8) = some (eI 10 (fun _ => 0)) := by rw [hw_72]; exact pset_eq _ _ _
  have xw_66 : w_72 mo = some (eO 9 [.ref ((mo + 1)), .ref ((mo + 2)), .ref ((mo + 3)), .int (iI 0), .ref ((mo + 4)), .ref ((mo + 5)), .int (iI 60), .ref ((mo + 6)), .int (iI 0), .ref ((mo + 7)), .int (iI 0), .int (iI 0), .int (iI 0), .int (iI 0), .int (iI 0), .null, .int (iI 0), .null, .null, .null]) := (ow_72 _ (by omega)).trans xw_66
  have fw_64 : w_72 (mo + 7) = some (eI 17 (fun _ => 0)) := (ow_72 _ (by omega)).trans fw_64
  have fw_56 : w_72 (mo + 6) = some (eI 40 (fun _ => 0)) := (ow_72 _ (by omega)).trans fw_56
  have fw_42 : w_72 (mo + 5) = some (eZ 2 (fun _ => 0)) := (ow_72 _ (by omega)).trans fw_42
  have fw_35 : w_72 (mo + 4) = some (eI 968 (fun _ => 0)) := (ow_72 _ (by omega)).trans fw_35
  have fw_26 : w_72 (mo + 3) = some (eI 2898 (fun _ => 0)) := (ow_72 _ (by omega)).trans fw_26
  have fw_17 : w_72 (mo + 2) = some (eI 483 (fun _ => 0)) := (ow_72 _ (by omega)).trans fw_17
  have fw_8 : w_72 (mo + 1) = some (eI 483 (fun _ => 0)) := (ow_72 _ (by omega)).trans fw_8
  refine r_putF hb ho hnm rfl 77 dX9_init_74 rfl lkw_X9_36 pf_X9_15 xw_66 (Nat.le_of_ble_eq_true rfl) ⟨rfl, rfl⟩ (fun w_74 hw_74 => ?_)
  have ow_74 := pset_off hw_74
  have xw_74 : w_74 mo = some (eO 9 [.ref ((mo + 1)), .ref ((mo + 2)), .ref ((mo + 3)), .int (iI 0), .ref ((mo + 4)), .ref ((mo + 5)), .int (iI 60), .ref ((mo + 6)), .int (iI 0), .ref ((mo + 7)), .int (iI 0), .int (iI 0), .int (iI 0), .int (iI 0), .int (iI 0), .ref ((mo + 8)), .int (iI 0), .null, .null, .null]) := by rw [hw_74]; exact pset_eq _ _ _
  have fw_72 : w_74 (mo + 8) = some (eI 10 (fun _ => 0)) := (ow_74 _ (by omega)).trans fw_72
  have fw_64 : w_74 (mo + 7) = some (eI 17 (fun _ => 0)) := (ow_74 _ (by omega)).trans fw_64
  have fw_56 : w_74 (mo + 6) = some (eI 40 (fun _ => 0)) := (ow_74 _ (by omega)).trans fw_56
  have fw_42 : w_74 (mo + 5) = some (eZ 2 (fun _ => 0)) := (ow_74 _ (by omega)).trans fw_42
  have fw_35 : w_74 (mo + 4) = some (eI 968 (fun _ => 0)) := (ow_74 _ (by omega)).trans fw_35
  have fw_26 : w_74 (mo + 3) = some (eI 2898 (fun _ => 0)) := (ow_74 _ (by omega)).trans fw_26
  have fw_17 : w_74 (mo + 2) = some (eI 483 (fun _ => 0)) := (ow_74 _ (by omega)).trans fw_17
  have fw_8 : w_74 (mo + 1) = some (eI 483 (fun _ => 0)) := (ow_74 _ (by omega)).trans fw_8
  refine r_aload_n hb 78 dX9_init_77 rfl 0 rfl ?_
  refine r_sipush 1210 hb 81 dX9_init_78 rfl rfl ?_
  refine r_newI (N := 1210) hb 83 dX9_init_81 rfl ka_int (rfl) (by omega) (by rw [hR0]; exact Nat.le_of_ble_eq_true rfl) (by rw [hR0]; exact Nat.le_of_ble_eq_true rfl) (fun w_81 hw_81 => ?_)
  have ow_81 := pset_off hw_81
  have fw_81 : w_81 (mo + 9) = some (eI 1210 (fun _ => 0)) := by rw [hw_81]; exact pset_eq _ _ _
  have xw_74 : w_81 mo = some (eO 9 [.ref ((mo + 1)), .ref ((mo + 2)), .ref ((mo + 3)), .int (iI 0), .ref ((mo + 4)), .ref ((mo + 5)), .int (iI 60), .ref ((mo + 6)), .int (iI 0), .ref ((mo + 7)), .int (iI 0), .int (iI 0), .int (iI 0), .int (iI 0), .int (iI 0), .ref ((mo + 8)), .int (iI 0), .null, .null, .null]) := (ow_81 _ (by omega)).trans xw_74
  have fw_72 : w_81 (mo + 8) = some (eI 10 (fun _ => 0)) := (ow_81 _ (by omega)).trans fw_72
  have fw_64 : w_81 (mo + 7) = some (eI 17 (fun _ => 0)) := (ow_81 _ (by omega)).trans fw_64
  have fw_56 : w_81 (mo + 6) = some (eI 40 (fun _ => 0)) := (ow_81 _ (by omega)).trans fw_56
  have fw_42 : w_81 (mo + 5) = some (eZ 2 (fun _ => 0)) := (ow_81 _ (by omega)).trans fw_42
  have fw_35 : w_81 (mo + 4) = some (eI 968 (fun _ => 0)) := (ow_81 _ (by omega)).trans fw_35
  have fw_26 : w_81 (mo + 3) = some (eI 2898 (fun _ => 0)) := (ow_81 _ (by omega)).trans fw_26
  have fw_17 : w_81 (mo + 2) = some (eI 483 (fun _ => 0)) := (ow_81 _ (by omega)).trans fw_17
  have fw_8 : w_81 (mo + 1) = some (eI 483 (fun _ => 0)) := (ow_81 _ (by omega)).trans fw_8
  refine r_putF hb ho hnm rfl 86 dX9_init_83 rfl lkw_X9_39 pf_X9_17 xw_74 (Nat.le_of_ble_eq_true rfl) ⟨rfl, rfl⟩ (fun w_83 hw_83 => ?_)
  have ow_83 := pset_off hw_83
  have xw_83 : w_83 mo = some (eO 9 [.ref ((mo + 1)), .ref ((mo + 2)), .ref ((mo + 3)), .int (iI 0), .ref ((mo + 4)), .ref ((mo + 5)), .int (iI 60), .ref ((mo + 6)), .int (iI 0), .ref ((mo + 7)), .int (iI 0), .int (iI 0), .int (iI 0), .int (iI 0), .int (iI 0), .ref ((mo + 8)), .int (iI 0), .ref ((mo + 9)), .null, .null]) := by rw [hw_83]; exact pset_eq _ _ _
  have fw_81 : w_83 (mo + 9) = some (eI 1210 (fun _ => 0)) := (ow_83 _ (by omega)).trans fw_81
  have fw_72 : w_83 (mo + 8) = some (eI 10 (fun _ => 0)) := (ow_83 _ (by omega)).trans fw_72
  have fw_64 : w_83 (mo + 7) = some (eI 17 (fun _ => 0)) := (ow_83 _ (by omega)).trans fw_64
  have fw_56 : w_83 (mo + 6) = some (eI 40 (fun _ => 0)) := (ow_83 _ (by omega)).trans fw_56
  have fw_42 : w_83 (mo + 5) = some (eZ 2 (fun _ => 0)) := (ow_83 _ (by omega)).trans fw_42
  have fw_35 : w_83 (mo + 4) = some (eI 968 (fun _ => 0)) := (ow_83 _ (by omega)).trans fw_35
  have fw_26 : w_83 (mo + 3) = some (eI 2898 (fun _ => 0)) := (ow_83 _ (by omega)).trans fw_26
  have fw_17 : w_83 (mo + 2) = some (eI 483 (fun _ => 0)) := (ow_83 _ (by omega)).trans fw_17
  have fw_8 : w_83 (mo + 1) = some (eI 483 (fun _ => 0)) := (ow_83 _ (by omega)).trans fw_8
  refine r_aload_n hb 87 dX9_init_86 rfl 0 rfl ?_
  refine r_sipush 1210 hb 90 dX9_init_87 rfl rfl ?_
  refine r_newI (N := 1210) hb 92 dX9_init_90 rfl ka_int (rfl) (by omega) (by rw [hR0]; exact Nat.le_of_ble_eq_true rfl) (by rw [hR0]; exact Nat.le_of_ble_eq_true rfl) (fun w_90 hw_90 => ?_)
  have ow_90 := pset_off hw_90
  have fw_90 : w_90 (mo + 10) = some (eI 1210 (fun _ => 0)) := by rw [hw_90]; exact pset_eq _ _ _
  have xw_83 : w_90 mo = some (eO 9 [.ref ((mo + 1)), .ref ((mo + 2)), .ref ((mo + 3)), .int (iI 0), .ref ((mo + 4)), .ref ((mo + 5)), .int (iI 60), .ref ((mo + 6)), .int (iI 0), .ref ((mo + 7)), .int (iI 0), .int (iI 0), .int (iI 0), .int (iI 0), .int (iI 0), .ref ((mo + 8)), .int (iI 0), .ref ((mo + 9)), .null, .null]) := (ow_90 _ (by omega)).trans xw_83
  have fw_81 : w_90 (mo + 9) = some (eI 1210 (fun _ => 0)) := (ow_90 _ (by omega)).trans fw_81
  have fw_72 : w_90 (mo + 8) = some (eI 10 (fun _ => 0)) := (ow_90 _ (by omega)).trans fw_72
  have fw_64 : w_90 (mo + 7) = some (eI 17 (fun _ => 0)) := (ow_90 _ (by omega)).trans fw_64
  have fw_56 : w_90 (mo + 6) = some (eI 40 (fun _ => 0)) := (ow_90 _ (by omega)).trans fw_56
  have fw_42 : w_90 (mo + 5) = some (eZ 2 (fun _ => 0)) := (ow_90 _ (by omega)).trans fw_42
  have fw_35 : w_90 (mo + 4) = some (eI 968 (fun _ => 0)) := (ow_90 _ (by omega)).trans fw_35
  have fw_26 : w_90 (mo + 3) = some (eI 2898 (fun _ => 0)) := (ow_90 _ (by omega)).trans fw_26
  have fw_17 : w_90 (mo + 2) = some (eI 483 (fun _ => 0)) := (ow_90 _ (by omega)).trans fw_17
  have fw_8 : w_90 (mo + 1) = some (eI 483 (fun _ => 0)) := (ow_90 _ (by omega)).trans fw_8
  refine r_putF hb ho hnm rfl 95 dX9_init_92 rfl lkw_X9_42 pf_X9_18 xw_83 (Nat.le_of_ble_eq_true rfl) ⟨rfl, rfl⟩ (fun w_92 hw_92 => ?_)
  have ow_92 := pset_off hw_92
  have xw_92 : w_92 mo = some (eO 9 [.ref ((mo + 1)), .ref ((mo + 2)), .ref ((mo + 3)), .int (iI 0), .ref ((mo + 4)), .ref ((mo + 5)), .int (iI 60), .ref ((mo + 6)), .int (iI 0), .ref ((mo + 7)), .int (iI 0), .int (iI 0), .int (iI 0), .int (iI 0), .int (iI 0), .ref ((mo + 8)), .int (iI 0), .ref ((mo + 9)), .ref ((mo + 10)), .null]) := by rw [hw_92]; exact pset_eq _ _ _
  have fw_90 : w_92 (mo + 10) = some (eI 1210 (fun _ => 0)) := (ow_92 _ (by omega)).trans fw_90
  have fw_81 : w_92 (mo + 9) = some (eI 1210 (fun _ => 0)) := (ow_92 _ (by omega)).trans fw_81
  have fw_72 : w_92 (mo + 8) = some (eI 10 (fun _ => 0)) := (ow_92 _ (by omega)).trans fw_72
  have fw_64 : w_92 (mo + 7) = some (eI 17 (fun _ => 0)) := (ow_92 _ (by omega)).trans fw_64
  have fw_56 : w_92 (mo + 6) = some (eI 40 (fun _ => 0)) := (ow_92 _ (by omega)).trans fw_56
  have fw_42 : w_92 (mo + 5) = some (eZ 2 (fun _ => 0)) := (ow_92 _ (by omega)).trans fw_42
  have fw_35 : w_92 (mo + 4) = some (eI 968 (fun _ => 0)) := (ow_92 _ (by omega)).trans fw_35
  have fw_26 : w_92 (mo + 3) = some (eI 2898 (fun _ => 0)) := (ow_92 _ (by omega)).trans fw_26
  have fw_17 : w_92 (mo + 2) = some (eI 483 (fun _ => 0)) := (ow_92 _ (by omega)).trans fw_17
  have fw_8 : w_92 (mo + 1) = some (eI 483 (fun _ => 0)) := (ow_92 _ (by omega)).trans fw_8
  refine r_aload_n hb 96 dX9_init_95 rfl 0 rfl ?_
  refine r_sipush 1331 hb 99 dX9_init_96 rfl rfl ?_
  refine r_newI (N := 1331) hb 101 dX9_init_99 rfl ka_int (rfl) (by omega) (by rw [hR0]; exact Nat.le_of_ble_eq_true rfl) (by rw [hR0]; exact Nat.le_of_ble_eq_true rfl) (fun w_99 hw_99 => ?_)
  have ow_99 := pset_off hw_99
  have fw_99 : w_99 (mo + 11) = some (eI 1331 (fun _ => 0)) := by rw [hw_99]; exact pset_eq _ _ _
  have xw_92 : w_99 mo = some (eO 9 [.ref ((mo + 1)), .ref ((mo + 2)), .ref ((mo + 3)), .int (iI 0), .ref ((mo + 4)), .ref ((mo + 5)), .int (iI 60), .ref ((mo + 6)), .int (iI 0), .ref ((mo + 7)), .int (iI 0), .int (iI 0), .int (iI 0), .int (iI 0), .int (iI 0), .ref ((mo + 8)), .int (iI 0), .ref ((mo + 9)), .ref ((mo + 10)), .null]) := (ow_99 _ (by omega)).trans xw_92
  have fw_90 : w_99 (mo + 10) = some (eI 1210 (fun _ => 0)) := (ow_99 _ (by omega)).trans fw_90
  have fw_81 : w_99 (mo + 9) = some (eI 1210 (fun _ => 0)) := (ow_99 _ (by omega)).trans fw_81
  have fw_72 : w_99 (mo + 8) = some (eI 10 (fun _ => 0)) := (ow_99 _ (by omega)).trans fw_72
  have fw_64 : w_99 (mo + 7) = some (eI 17 (fun _ => 0)) := (ow_99 _ (by omega)).trans fw_64
  have fw_56 : w_99 (mo + 6) = some (eI 40 (fun _ => 0)) := (ow_99 _ (by omega)).trans fw_56
  have fw_42 : w_99 (mo + 5) = some (eZ 2 (fun _ => 0)) := (ow_99 _ (by omega)).trans fw_42
  have fw_35 : w_99 (mo + 4) = some (eI 968 (fun _ => 0)) := (ow_99 _ (by omega)).trans fw_35
  have fw_26 : w_99 (mo + 3) = some (eI 2898 (fun _ => 0)) := (ow_99 _ (by omega)).trans fw_26
  have fw_17 : w_99 (mo + 2) = some (eI 483 (fun _ => 0)) := (ow_99 _ (by omega)).trans fw_17
  have fw_8 : w_99 (mo + 1) = some (eI 483 (fun _ => 0)) := (ow_99 _ (by omega)).trans fw_8
  refine r_putF hb ho hnm rfl 104 dX9_init_101 rfl lkw_X9_45 pf_X9_19 xw_92 (Nat.le_of_ble_eq_true rfl) ⟨rfl, rfl⟩ (fun w_101 hw_101 => ?_)
  have ow_101 := pset_off hw_101
  have xw_101 : w_101 mo = some (eO 9 [.ref ((mo + 1)), .ref ((mo + 2)), .ref ((mo + 3)), .int (iI 0), .ref ((mo + 4)), .ref ((mo + 5)), .int (iI 60), .ref ((mo + 6)), .int (iI 0), .ref ((mo + 7)), .int (iI 0), .int (iI 0), .int (iI 0), .int (iI 0), .int (iI 0), .ref ((mo + 8)), .int (iI 0), .ref ((mo + 9)), .ref ((mo + 10)), .ref ((mo + 11))]) := by rw [hw_101]; exact pset_eq _ _ _
  have fw_99 : w_101 (mo + 11) = some (eI 1331 (fun _ => 0)) := (ow_101 _ (by omega)).trans fw_99
  have fw_90 : w_101 (mo + 10) = some (eI 1210 (fun _ => 0)) := (ow_101 _ (by omega)).trans fw_90
  have fw_81 : w_101 (mo + 9) = some (eI 1210 (fun _ => 0)) := (ow_101 _ (by omega)).trans fw_81
  have fw_72 : w_101 (mo + 8) = some (eI 10 (fun _ => 0)) := (ow_101 _ (by omega)).trans fw_72
  have fw_64 : w_101 (mo + 7) = some (eI 17 (fun _ => 0)) := (ow_101 _ (by omega)).trans fw_64
  have fw_56 : w_101 (mo + 6) = some (eI 40 (fun _ => 0)) := (ow_101 _ (by omega)).trans fw_56
  have fw_42 : w_101 (mo + 5) = some (eZ 2 (fun _ => 0)) := (ow_101 _ (by omega)).trans fw_42
  have fw_35 : w_101 (mo + 4) = some (eI 968 (fun _ => 0)) := (ow_101 _ (by omega)).trans fw_35
  have fw_26 : w_101 (mo + 3) = some (eI 2898 (fun _ => 0)) := (ow_101 _ (by omega)).trans fw_26
  have fw_17 : w_101 (mo + 2) = some (eI 483 (fun _ => 0)) := (ow_101 _ (by omega)).trans fw_17
  have fw_8 : w_101 (mo + 1) = some (eI 483 (fun _ => 0)) := (ow_101 _ (by omega)).trans fw_8
  refine r_vret hS dX9_init_104 rfl (Nat.le_of_ble_eq_true rfl) (Nat.le_of_ble_eq_true rfl) ?_
  refine ⟨rfl, rfl, ⟨fun k => if k = 6 then 60 else 0, fun _ => 0, fun _ => 0, fun _ => 0, fun _ => 0, fun _ => 0, fun _ => 0, fun _ => 0, fun _ => 0, fun _ => 0, fun _ => 0, fun _ => 0, xw_101, fw_8, fw_17, fw_26, fw_35, fw_42, fw_56, fw_64, fw_72, fw_81, fw_90, fw_99, ?_, rfl, ⟨Nat.zero_le _, fun j hj => absurd hj (Nat.not_lt_zero _)⟩, rfl, rfl, ⟨Nat.zero_le _, fun i hi => absurd hi (Nat.not_lt_zero _)⟩, ⟨rfl, fun v hv => by cases hv⟩, ⟨rfl, fun v hv => by cases hv⟩⟩, (((((((((((((((((((((((ow_8.mono (by omega) (by omega)).trans (ow_10.mono (by omega) (by omega))).trans (ow_17.mono (by omega) (by omega))).trans (ow_19.mono (by omega) (by omega))).trans (ow_26.mono (by omega) (by omega))).trans (ow_28.mono (by omega) (by omega))).trans (ow_35.mono (by omega) (by omega))).trans (ow_37.mono (by omega) (by omega))).trans (ow_42.mono (by omega) (by omega))).trans (ow_44.mono (by omega) (by omega))).trans (ow_50.mono (by omega) (by omega))).trans (ow_56.mono (by omega) (by omega))).trans (ow_58.mono (by omega) (by omega))).trans (ow_64.mono (by omega) (by omega))).trans (ow_66.mono (by omega) (by omega))).trans (ow_72.mono (by omega) (by omega))).trans (ow_74.mono (by omega) (by omega))).trans (ow_81.mono (by omega) (by omega))).trans (ow_83.mono (by omega) (by omega))).trans (ow_90.mono (by omega) (by omega))).trans (ow_92.mono (by omega) (by omega))).trans (ow_99.mono (by omega) (by omega))).trans (ow_101.mono (by omega) (by omega)))⟩
  exact ⟨⟨rfl, fun i hi => absurd hi (Nat.not_lt_zero _), by decide⟩, rfl, rfl, by decide, by decide, fun k hk => absurd hk (Nat.not_lt_zero _)⟩
