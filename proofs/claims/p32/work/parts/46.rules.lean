/-! rules that the law's own methods need -/
section P46
variable {S : PS} {cc : ByteArray} {pc : Nat} {lv : List (Nat × Value)} {st : List Value} {w : PW} {n ce sl : Nat}
theorem r_pop {v : Value} (hb : S.1.1 = cc) (q : Nat) (hd : decode cc pc = .ok (.pop, 1)) (hq : pc + 1 = q) (hv : v.category = 1) (kk : Wp S q lv st w n ce sl) : Wp S pc lv (v :: st) w n ce sl := by
  intro D p l e s m args below meth c H locs ls Q hC hX hl hH hn hdm hs hS
  subst hb; subst hq
  exact lv_pop hC.1 hC.2.1 hd hv (kk D p l e s m args below meth c H locs ls Q hC hX hl hH hn hdm hs hS)
theorem r_ixor {x y : Int32} (hb : S.1.1 = cc) (q : Nat) (hd : decode cc pc = .ok (.ixor, 1)) (hq : pc + 1 = q) (kk : Wp S q lv (.int (x ^^^ y) :: st) w n ce sl) : Wp S pc lv (.int y :: .int x :: st) w n ce sl := by
  intro D p l e s m args below meth c H locs ls Q hC hX hl hH hn hdm hs hS
  subst hb; subst hq
  exact lv_ixor hC.1 hC.2.1 hd (kk D p l e s m args below meth c H locs ls Q hC hX hl hH hn hdm hs hS)
theorem r_ishr {x y : Int32} (hb : S.1.1 = cc) (q : Nat) (hd : decode cc pc = .ok (.ishr, 1)) (hq : pc + 1 = q) (kk : Wp S q lv (.int (x >>> (y &&& 31)) :: st) w n ce sl) : Wp S pc lv (.int y :: .int x :: st) w n ce sl := by
  intro D p l e s m args below meth c H locs ls Q hC hX hl hH hn hdm hs hS
  subst hb; subst hq
  exact lv_ishr hC.1 hC.2.1 hd (kk D p l e s m args below meth c H locs ls Q hC hX hl hH hn hdm hs hS)
/-- a shift of a number that is not negative -/
theorem r_ishrN {a k : Nat} {za zk : Int} (hb : S.1.1 = cc) (q : Nat) (hd : decode cc pc = .ok (.ishr, 1)) (hq : pc + 1 = q) (hza : za = (a : Int)) (ha : a < 2147483648) (hs0 : ((iI zk &&& 31).toBitVec.smod 32).toNat = k) (b : Nat) (hab : a / 2 ^ k = b) (kk : Wp S q lv (.int (iI ((b : Nat) : Int)) :: st) w n ce sl) : Wp S pc lv (.int (iI zk) :: .int (iI za) :: st) w n ce sl := by
  subst hza; subst hab
  refine r_ishr hb q hd hq ?_
  rw [iI_nat, pk_shrN (by omega) _ k hs0, ← iI_nat]
  exact kk
/-- a remainder of numbers that are not negative -/
theorem r_iremN {a d : Nat} {za zd : Int} (hb : S.1.1 = cc) (q : Nat) (hd : decode cc pc = .ok (.irem, 1)) (hq : pc + 1 = q) (hza : za = (a : Int)) (hzd : zd = (d : Int)) (ha : a < 2147483648) (h0 : 0 < d) (hdb : d < 2147483648) (kk : Wp S q lv (.int (iI ((a % d : Nat) : Int)) :: st) w n ce sl) : Wp S pc lv (.int (iI zd) :: .int (iI za) :: st) w n ce sl := by
  intro D p l e s m args below meth c H locs ls Q hC hX hl hH hn hdm hs hS
  subst hb; subst hq; subst hza; subst hzd
  have hne : ¬ iI ((d : Nat) : Int) = 0 := fun h => by
    have h1 := congrArg Int32.toInt h
    rw [iI_toInt (by omega)] at h1
    have h2 : (0 : Int32).toInt = 0 := rfl
    omega
  refine lv_irem hC.1 hC.2.1 hd hne ?_
  rw [iI_nat, iI_nat, pk_rem (by omega) h0 (by omega), ← iI_nat]
  exact kk D p l e s m args below meth c H locs ls Q hC hX hl hH hn hdm hs hS
theorem r_ldcI {own : String} {idx : Nat} {v : Int32} (hb : S.1.1 = cc) (ho : S.1.2.1 = own) (q : Nat) (hd : decode cc pc = .ok (.ldc idx, 2)) (hq : pc + 2 = q) (h1 : Cond.constant own idx v ∈ PT) (kk : Wp S q lv (.int v :: st) w n ce sl) : Wp S pc lv st w n ce sl := by
  intro D p l e s m args below meth c H locs ls Q hC hX hl hH hn hdm hs hS
  subst hq; subst hb; subst ho
  obtain ⟨hx, hcd, hml, hown, hts, hret, hnm, hlk, hK, hN⟩ := id hC
  exact lv_ldc hx hcd hown (hts _ h1) hd (kk D p l e s m args below meth c H locs ls Q hC hX hl hH hn hdm hs hS)
theorem r_callS1 {own : String} {idx : Nat} {y : MethodName} {b : ByteArray} {L : Nat} {r : Option FieldType} {rm : Room} {k : Nat} {As : List Value} {st0 : List Value} {Q : Value → PW → Nat → Prop} (hb : S.1.1 = cc) (ho : S.1.2.1 = own) (q : Nat) (hd : decode cc pc = .ok (.invokestatic idx, 3)) (hq : pc + 3 = q) (hl0 : pCS own idx y b L r k) (hc : Ct1 y b L r rm As w n Q) (hk : As.length = k) (hst : st0 = As.reverse ++ st) (hR : rm.frames + 1 ≤ S.2.1.frames ∧ 8 + (L + 11) + rm.locals ≤ S.2.1.locals) (hcat : (st.map fun v => v.category).sum ≤ 8) (hz : rm.cells = 0 ∧ rm.slots = 0) (hce : ce ≤ S.2.1.cells) (hsl : sl ≤ S.2.1.slots)
    (kk : ∀ x w1 n1, Q x w1 n1 → Wp S q lv (x :: st) w1 n1 ce sl) : Wp S pc lv st0 w n ce sl := by
  refine r_callS hb ho q hd hq hl0 hc hk hst hR hcat (by rw [hz.1]; exact hce) (by rw [hz.2]; exact hsl) fun v w1 n1 hv => ?_
  obtain ⟨x, rfl, hx⟩ := hv
  rw [hz.1, hz.2]
  exact kk x w1 n1 hx
theorem r_tsw {dflt lo hi : Int} {offs : Array Int} {len : Nat} {x : Int32} {off : Int} (hb : S.1.1 = cc) (tgt : Nat) (hd : decode cc pc = .ok (.tableswitch dflt lo hi offs, len)) (k : Int) (hx : x.toInt = k) (h1 : lo ≤ k) (h2 : k ≤ hi) (ho : offs[(k - lo).toNat]? = some off) (ht : (pc : Int) + off = (tgt : Int)) (kk : Wp S tgt lv st w n ce sl) : Wp S pc lv (.int x :: st) w n ce sl := by
  intro D p l e s m args below meth c H locs ls Q hC hX hl hH hn hdm hs hS
  subst hb; subst hx
  exact lv_tableIn hC.1 hC.2.1 hd (by omega) (by omega) ho ht (kk D p l e s m args below meth c H locs ls Q hC hX hl hH hn hdm hs hS)
theorem r_tswO {dflt lo hi : Int} {offs : Array Int} {len : Nat} {x : Int32} (hb : S.1.1 = cc) (tgt : Nat) (hd : decode cc pc = .ok (.tableswitch dflt lo hi offs, len)) (hx : x.toInt < lo ∨ hi < x.toInt) (ht : (pc : Int) + dflt = (tgt : Int)) (kk : Wp S tgt lv st w n ce sl) : Wp S pc lv (.int x :: st) w n ce sl := by
  intro D p l e s m args below meth c H locs ls Q hC hX hl hH hn hdm hs hS
  subst hb
  exact lv_tableOut hC.1 hC.2.1 hd hx ht (kk D p l e s m args below meth c H locs ls Q hC hX hl hH hn hdm hs hS)
end P46
/-! the script, which lies outside of every world: a method that reads it alone -/
abbrev wE : PW := fun _ => none
def cS (code : ByteArray) (own : String) (nL : Nat) (ret : Option FieldType) (name : String) (rm : Room) (n bb L : Nat) (xs : Nat → Int32) (Q : Option Value → PW → Nat → Prop) : PS :=
  ((code, own, nL, ret, name), rm, (fun q => n ≤ q), fun D below args s Z => Z = MQ below (pQ D (fun q => n ≤ q) Q) args s rm.cells rm.slots (fun q => n ≤ q) ∧ va_X bb L xs s s.heap ∧ bb < s.heap.size ∧ n = s.heap.size)
section P46B
variable {S : PS} {b : ByteArray} {own name : String} {nL : Nat} {ret : Option FieldType} {rm : Room} {n0 bb L : Nat} {xs : Nat → Int32} {Q : Option Value → PW → Nat → Prop} {pc : Nat} {lv : List (Nat × Value)} {st : List Value} {w : PW} {n ce sl : Nat}
theorem r_cld {z : Int} (hS0 : S = cS b own nL ret name rm n0 bb L xs Q) (q : Nat) (hd : decode b pc = .ok (.iaload, 1)) (hq : pc + 1 = q) (j : Nat) (hz : z = (j : Int)) (hj : j < L) (hL : L < 2147483648) (kk : Wp S q lv (.int (xs j) :: st) w n ce sl) : Wp S pc lv (.int (iI z) :: .ref bb :: st) w n ce sl := by
  subst hS0; subst hq; subst hz
  intro D p l e s m args below meth c H locs ls Q' hC hX hl hH hn hdm hs hS
  obtain ⟨hZ, hXX, hbl, hN⟩ := id hX
  have k := kk D p l e s m args below meth c H locs ls Q' hC hX hl hH hn hdm hs hS
  refine va_sld hC.1 hC.2.1 hXX hbl (show ¬ (n0 ≤ bb) by omega) hS (iI_vpin (N := L) (by omega) (by omega)) hd ?_
  rw [iI_clamp (by omega)]
  exact k
theorem r_clen (hS0 : S = cS b own nL ret name rm n0 bb L xs Q) (q : Nat) (hd : decode b pc = .ok (.arraylength, 1)) (hq : pc + 1 = q) (kk : Wp S q lv (.int (iI ((L : Nat) : Int)) :: st) w n ce sl) : Wp S pc lv (.ref bb :: st) w n ce sl := by
  subst hS0; subst hq
  intro D p l e s m args below meth c H locs ls Q' hC hX hl hH hn hdm hs hS
  obtain ⟨hZ, hXX, hbl, hN⟩ := id hX
  refine va_slen hC.1 hC.2.1 hXX hbl (show ¬ (n0 ≤ bb) by omega) hS hd ?_
  have k := kk D p l e s m args below meth c H locs ls Q' hC hX hl hH hn hdm hs hS
  rw [iI_nat] at k
  exact k
theorem r_cret {v : Int32} {ty : FieldType} (hS0 : S = cS b own nL ret name rm n0 bb L xs Q) (hd : decode b pc = .ok (.ireturn, 1)) (hr : ret = some ty) (hnw : narrow ty (.int v) = .int v) (hce : ce ≤ rm.cells) (hsl : sl ≤ rm.slots) (hq : Q (some (.int v)) w n) : Wp S pc lv [.int v] w n ce sl := by
  intro D p l e s m args below meth c H locs ls Q' hC hX hl hH hn hdm hs hS
  subst hS0
  obtain ⟨hx, hcd, hml, hown, hts, hret, hnm, hlk, hK⟩ := id hC
  obtain ⟨hZ, hXX, hbl, hN⟩ := id hX
  subst hZ
  refine W.widen hce hsl ?_
  exact W.zret hx hcd (hret.trans hr) hnw (fun t ht hW => ⟨⟨_, w, rfl, by rw [ht, hn]; exact hq, by rw [ht]; exact hH, hdm, pK.moved hW hK⟩, hS.F ht⟩) hS.2.2 hd hlk
end P46B
/-- a contract of a method that reads the script at bb and nothing else -/
def CtC (y : MethodName) (b : ByteArray) (nL : Nat) (r : Option FieldType) (rm : Room) (args : List Value) (bb L : Nat) (xs : Nat → Int32) (n : Nat) (Q : Value → Prop) : Prop :=
  ∀ (l : Launch) (D : PD), Met l y (Cond.code y b nL r :: PT) rm (va_Pc args (fun U => (va_X bb L xs U U.heap ∧ bb < U.heap.size ∧ n = U.heap.size) ∧ pK D U)) (pQ D (fun q => n ≤ q) (fun v w1 n1 => w1 = wE ∧ n1 = n ∧ ∃ x, v = some x ∧ Q x)) rm.cells rm.slots (fun q => n ≤ q)
theorem CtC.of {y : MethodName} {b : ByteArray} {nL : Nat} {r : Option FieldType} {rm : Room} {args : List Value} {bb L : Nat} {xs : Nat → Int32} {n : Nat} {Q : Value → Prop} (hy : plainName y.cls = true) (hL : (lg_sl args).length ≤ nL)
    (body : ∀ S : PS, S = cS b y.cls nL r y.name rm n bb L xs (fun v w1 n1 => w1 = wE ∧ n1 = n ∧ ∃ x, v = some x ∧ Q x) → Wp S 0 (lv_args 0 args) [] wE n 0 0) : CtC y b nL r rm args bb L xs n Q := by
  intro l D
  refine Met.ofW (cc := b) (maxL := nL) (ret := r) hy rfl ?_
  intro p e s m args' below meth c s₁ B hml hv
  obtain ⟨rfl, ⟨hX, hbl, hsz⟩, hK⟩ := hv
  have hts := atoms_spec (ws := Cond.code y b nL r :: PT) B.pre
  have hl := lv_entry args hL
  rw [lg_entry_eq]
  exact body _ rfl D p l e s m args.toArray below meth c s.heap [] _ _
    ⟨B.exec, B.bytes, hml, findClass_of_methodNamed B.named, fun x hx => hts x (List.mem_cons_of_mem _ hx), B.returns, (name_of_methodNamed B.named B.method).1, B.notSynchronized, hK⟩
    ⟨rfl, hX, hbl, hsz⟩ hl (fun a e h => by cases h) hsz.symm (fun a h => by cases h) (fun q hq => by rw [hsz]; exact hq) va_S.rf
theorem p_blindC {D : PD} {bb L n : Nat} {xs : Nat → Int32} (av : List Value) : FrameBlind (va_Pc av (fun U => (va_X bb L xs U U.heap ∧ bb < U.heap.size ∧ n = U.heap.size) ∧ pK D U)) := fun a U g mk q => ⟨q.1, ⟨va_X.moved (u := U) (U := U.calling g mk a) (Vm.Alike.refl _) q.2.1.1, q.2.1.2⟩, pK.same (u := U) (U := U.calling g mk a) rfl q.2.2⟩
/-- a call behind which every old cell is as it was -/
theorem p_callC {p : Program} {l : Launch} {e : Env} {R : Room} {s : State} {m : MethodId} {args a : Array Value} {below : List Frame} {meth : Method} {c : Code} {H : Heap} {locs : List Loc} {ls : Array Slot} {st0 rest : List Value} {Q : State → Prop} {D : PD} {A0 : Nat → Prop} {n pc ce sl : Nat} {Q1 : Option Value → PW → Nat → Prop} {mc ms : Nat} (hr : va_Run p l e R s m args below meth c H locs ce sl mc ms (F0 m pc ls st0) rest (pQ D (fun q => n ≤ q) Q1 a) (fun q => n ≤ q)) (hn : H.size = n) (hS : va_S A0 s.heap H locs) (hA : ∀ q, n ≤ q → A0 q)
    (kk : ∀ (v : Option Value) (w1 : PW) (H1 : Heap) (locs1 : List Loc), Q1 v w1 H1.size → (∀ q, q < n → H1[q]? = H[q]?) → va_S A0 s.heap H1 locs1 → W p l e R s m args below meth c H1 locs1 (ce + mc) (sl + ms) Q (F0 m (pc + 3) ls (v.toList ++ rest))) : W p l e R s m args below meth c H locs ce sl Q (F0 m pc ls st0) := by
  intro T hT X
  obtain ⟨v, st₀, t, T', L, h0, X', hL, e1, e2, ⟨⟨v', w1, hv, hp, hb, hd1, -⟩, hz, hk⟩, st⟩ := hr T hT X
  cases hv
  rw [h0] at hz hk
  obtain ⟨t2, a1, b1⟩ := kk v w1 T'.heap (locs ++ L) (by rw [e1]; exact hp) (fun q hq => by rw [e1]; exact hk q (by omega) (by omega))
    ⟨Nat.le_trans hS.1 (by rw [e1]; exact hz), fun q h1 h2 => by rw [e1, hk q (Nat.lt_of_lt_of_le h1 hS.1) (fun z => h2 (hA q z))]; exact hS.2.1 q h1 h2, fun q hq => by
      rcases List.mem_append.mp hq with h | h
      · exact hS.2.2 q h
      · exact hA _ (hL q h)⟩ T' rfl X'
  exact ⟨t2, st t2 a1, b1⟩
/-! numbers -/
theorem sN_b (k : Nat) (h : k < 32) : ((iI ((k : Nat) : Int) &&& 31).toBitVec.smod 32).toNat = k := by
  rw [iI_nat]
  exact (by decide +kernel : ∀ k, k < 32 → ((nI k &&& 31).toBitVec.smod 32).toNat = k) k h
theorem sg_and (x : Int32) : ∃ c : Nat, c < 2147483648 ∧ x &&& 2147483647 = iI ((c : Nat) : Int) := by
  obtain ⟨j, h1, h2⟩ := pk_andE x (m := 2147483647) 31 (by decide)
  exact ⟨j, by omega, by rw [h2, iI_nat]⟩
theorem toInt_iI {z : Int} (h : -2147483648 ≤ z ∧ z < 2147483648) : (iI z).toInt = z := iI_toInt h
