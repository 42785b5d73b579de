set_option maxHeartbeats 4000000 in
set_option maxRecDepth 100000 in
/-- the law, from its entry -/
theorem whole_start {p : Program} {e : Env} {s : State} {m : MethodId} {below : List Frame} {meth : Method} {c : Code} (l : Launch) (hflags : l.flags = flags0) {b L : Nat} {xs : Nat → Int32} (hL : L ≤ 260) (C0 : lw_At p s m meth c b L xs) : W p l e room_1 s m #[Value.ref b] below meth c s.heap [] 0 0 (lw_Z below #[Value.ref b] s) (entryFrame m ([Value.ref b] : List Value).toArray 8) := by
  obtain ⟨hx, hb, hr, hml, hown, hts, hX, hbl, hlocks, hgv⟩ := id C0
  have hPT : ∀ x ∈ PT, x.before #[Value.ref b] s = true := fun x hx => hts x (List.mem_filter.mp hx).1
  have hPN : ∀ x ∈ PN, x.before #[Value.ref b] s = true := fun x hx => hts x (List.mem_append_right _ (List.mem_filter.mp hx).1)
  obtain ⟨c0, iS0, hKn0⟩ := u_known (C := RX0) (T := TX0) (N := 4) (n := 4) hPT cl_X0 (hPT _ ki_X0)
  obtain ⟨c1, iS1, hKn1⟩ := u_known (C := RX1) (T := TX1) (N := 5) (n := 5) hPT cl_X1 (hPT _ ki_X1)
  obtain ⟨c2, iS2, hKn2⟩ := u_known (C := RX2) (T := TX2) (N := 2) (n := 2) hPT cl_X2 (hPT _ ki_X2)
  obtain ⟨c3, iS3, hKn3⟩ := u_known (C := RX3) (T := TX3) (N := 8) (n := 8) hPT cl_X3 (hPT _ ki_X3)
  obtain ⟨c4, iS4, hKn4⟩ := u_known (C := RX4) (T := TX4) (N := 4) (n := 4) hPT cl_X4 (hPT _ ki_X4)
  obtain ⟨c5, iS5, hKn5⟩ := u_known (C := RX5) (T := TX5) (N := 3) (n := 3) hPT cl_X5 (hPT _ ki_X5)
  obtain ⟨c6, iS6, hKn6⟩ := u_known (C := RX6) (T := TX6) (N := 3) (n := 3) hPT cl_X6 (hPT _ ki_X6)
  obtain ⟨c7, iS7, hKn7⟩ := u_known (C := RX7) (T := TX7) (N := 2) (n := 2) hPT cl_X7 (hPT _ ki_X7)
  obtain ⟨c8, iS8, hKn8⟩ := u_known (C := RX8) (T := TX8) (N := 8) (n := 8) hPT cl_X8 (hPT _ ki_X8)
  obtain ⟨dC, dI, hKc⟩ : ∃ (dC : Nat → ClassId) (dI : Nat → Nat → Nat), ∀ (k : Nat) (q : vw_C), vwCl[k]? = some q → u_Kn s q.1 q.2.1 q.2.2 (dC k) (dI k) := by
    refine ⟨fun k => match k with | 0 => c0 | 1 => c1 | 2 => c2 | 3 => c3 | 4 => c4 | 5 => c5 | 6 => c6 | 7 => c7 | _ => c8, fun k => match k with | 0 => iS0 | 1 => iS1 | 2 => iS2 | 3 => iS3 | 4 => iS4 | 5 => iS5 | 6 => iS6 | 7 => iS7 | _ => iS8, ?_⟩
    intro k q hq
    match k, hq with
    | 0, hq => cases hq; exact hKn0
    | 1, hq => cases hq; exact hKn1
    | 2, hq => cases hq; exact hKn2
    | 3, hq => cases hq; exact hKn3
    | 4, hq => cases hq; exact hKn4
    | 5, hq => cases hq; exact hKn5
    | 6, hq => cases hq; exact hKn6
    | 7, hq => cases hq; exact hKn7
    | 8, hq => cases hq; exact hKn8
    | k + 9, hq => simp [vwCl] at hq
  obtain ⟨a0, k0, p0, f0, g0, h0⟩ := Cond.arrayClass_spec (hPT _ ka_int)
  obtain ⟨p2, a2, k2, e2, f2, g2, h2, i2⟩ := Cond.arrayOver_spec (hPN _ ko_X0)
  obtain ⟨p3, a3, k3, e3, f3, g3, h3, i3⟩ := Cond.arrayOver_spec (hPN _ ko_X3)
  obtain ⟨p4, a4, k4, e4, f4, g4, h4, i4⟩ := Cond.arrayOver_spec (hPN _ ko_X4)
  obtain ⟨D, hK⟩ : ∃ D : PD, pK D s := by
    refine ⟨(dC, dI, fun k => match k with | 0 => a0 | 1 => a0 | 2 => a2 | 3 => a3 | _ => a4), ⟨hKc, fun k q hq => ?_⟩, fun x hx => ?_⟩
    · match k, hq with
      | 0, hq => cases hq; exact ⟨fun N z => ⟨(fun k h => by cases h), k0, g0, p0, h0⟩, f0⟩
      | 1, hq => cases hq; exact ⟨fun N z => ⟨(fun k h => by cases h), k0, g0, p0, h0⟩, f0⟩
      | 2, hq => cases hq; exact ⟨fun N z => ⟨(fun k h => by cases h), k2, g2, p2, h2⟩, k2, p2, g2, h2, e2, i2⟩
      | 3, hq => cases hq; exact ⟨fun N z => ⟨(fun k h => by cases h), k3, g3, p3, h3⟩, k3, p3, g3, h3, e3, i3⟩
      | 4, hq => cases hq; exact ⟨fun N z => ⟨(fun k h => by cases h), k4, g4, p4, h4⟩, k4, p4, g4, h4, e4, i4⟩
      | k + 5, hq => simp [pT] at hq
    · have hb2 := hPN x hx
      obtain ⟨-, hn⟩ := List.mem_filter.mp hx
      cases x <;> first | (cases hn; done) | exact va_Nw.of rfl hb2 | exact hb2
  have hl := lv_entry ([.ref b]) (n := 8) (Nat.le_of_ble_eq_true rfl)
  rw [lg_entry_eq]
  exact law_wp (b := b) (N0 := s.heap.size) (xs := xs) (nm := meth.name) hL _ rfl D p l e s m #[Value.ref b] below meth c s.heap [] _ _ ⟨hx, hb, hml, hown, hPT, hr, rfl, hlocks, hK⟩ ⟨rfl, rfl, hX, hbl, rfl⟩ hl (fun a e h => by cases h) rfl (fun a h => by cases h) (fun q h => h) va_S.rf
