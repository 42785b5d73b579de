/-! worlds as functions of the address; the judgement Wp; its rules -/
def iI (z : Int) : Int32 := Int32.ofInt z
def bI (b : Bool) : Int32 := if b then 1 else 0
/-! small numbers as machine ints -/
theorem iI_nat (k : Nat) : iI (k : Int) = nI k := by
  first | rfl | (simp [iI, nI]; done) | (unfold iI nI; exact Int32.ofInt_eq_ofNat)
theorem iI_toInt {a : Int} (h : -2147483648 ≤ a ∧ a < 2147483648) : (iI a).toInt = a := Int32.toInt_ofInt_of_le (by have := h.1; omega) (by have := h.2; omega)
theorem iI_of (x : Int32) : iI x.toInt = x := by simp [iI]
theorem iI_bd (x : Int32) : -2147483648 ≤ x.toInt ∧ x.toInt < 2147483648 := ⟨Int32.le_toInt x, Int32.toInt_lt x⟩
theorem iI_add (a b : Int) : iI a + iI b = iI (a + b) := (Int32.ofInt_add a b).symm
theorem iI_sub (a b : Int) : iI a - iI b = iI (a - b) := (Int32.ofInt_sub a b).symm
theorem iI_mul (a b : Int) : iI a * iI b = iI (a * b) := (Int32.ofInt_mul a b).symm
theorem iI_neg (a : Int) : -iI a = iI (-a) := (Int32.ofInt_neg a).symm
theorem iI_inj {a b : Int} (ha : -2147483648 ≤ a ∧ a < 2147483648) (hb : -2147483648 ≤ b ∧ b < 2147483648) (h : iI a = iI b) : a = b := by
  have := congrArg Int32.toInt h
  rwa [iI_toInt ha, iI_toInt hb] at this
theorem iI_cmp_lt {a b : Int} (ha : -2147483648 ≤ a ∧ a < 2147483648) (hb : -2147483648 ≤ b ∧ b < 2147483648) : iI a < iI b ↔ a < b := by
  rw [Int32.lt_iff_toInt_lt, iI_toInt ha, iI_toInt hb]
theorem iI_cmp_le {a b : Int} (ha : -2147483648 ≤ a ∧ a < 2147483648) (hb : -2147483648 ≤ b ∧ b < 2147483648) : iI a ≤ iI b ↔ a ≤ b := by
  rw [Int32.le_iff_toInt_le, iI_toInt ha, iI_toInt hb]
theorem iI_eq_t {a b : Int} (ha : -2147483648 ≤ a ∧ a < 2147483648) (hb : -2147483648 ≤ b ∧ b < 2147483648) (h : iI a = iI b) : a = b := iI_inj ha hb h
theorem iI_eq_f {a b : Int} (ha : -2147483648 ≤ a ∧ a < 2147483648) (hb : -2147483648 ≤ b ∧ b < 2147483648) (h : ¬ iI a = iI b) : ¬ a = b := fun e => h (by rw [e])
theorem iI_ne_t {a b : Int} (ha : -2147483648 ≤ a ∧ a < 2147483648) (hb : -2147483648 ≤ b ∧ b < 2147483648) (h : iI a ≠ iI b) : ¬ a = b := fun e => h (by rw [e])
theorem iI_ne_f {a b : Int} (ha : -2147483648 ≤ a ∧ a < 2147483648) (hb : -2147483648 ≤ b ∧ b < 2147483648) (h : iI a = iI b) : a = b := iI_inj ha hb h
theorem iI_lt_t {a b : Int} (ha : -2147483648 ≤ a ∧ a < 2147483648) (hb : -2147483648 ≤ b ∧ b < 2147483648) (h : iI a < iI b) : a < b := (iI_cmp_lt ha hb).mp h
theorem iI_lt_f {a b : Int} (ha : -2147483648 ≤ a ∧ a < 2147483648) (hb : -2147483648 ≤ b ∧ b < 2147483648) (h : ¬ iI a < iI b) : b ≤ a := Int.not_lt.mp (fun e => h ((iI_cmp_lt ha hb).mpr e))
theorem iI_gt_t {a b : Int} (ha : -2147483648 ≤ a ∧ a < 2147483648) (hb : -2147483648 ≤ b ∧ b < 2147483648) (h : iI b < iI a) : b < a := (iI_cmp_lt hb ha).mp h
theorem iI_gt_f {a b : Int} (ha : -2147483648 ≤ a ∧ a < 2147483648) (hb : -2147483648 ≤ b ∧ b < 2147483648) (h : ¬ iI b < iI a) : a ≤ b := Int.not_lt.mp (fun e => h ((iI_cmp_lt hb ha).mpr e))
theorem iI_le_t {a b : Int} (ha : -2147483648 ≤ a ∧ a < 2147483648) (hb : -2147483648 ≤ b ∧ b < 2147483648) (h : iI a ≤ iI b) : a ≤ b := (iI_cmp_le ha hb).mp h
theorem iI_le_f {a b : Int} (ha : -2147483648 ≤ a ∧ a < 2147483648) (hb : -2147483648 ≤ b ∧ b < 2147483648) (h : ¬ iI a ≤ iI b) : b < a := Int.not_le.mp (fun e => h ((iI_cmp_le ha hb).mpr e))
theorem iI_ge_t {a b : Int} (ha : -2147483648 ≤ a ∧ a < 2147483648) (hb : -2147483648 ≤ b ∧ b < 2147483648) (h : iI b ≤ iI a) : b ≤ a := (iI_cmp_le hb ha).mp h
theorem iI_ge_f {a b : Int} (ha : -2147483648 ≤ a ∧ a < 2147483648) (hb : -2147483648 ≤ b ∧ b < 2147483648) (h : ¬ iI b ≤ iI a) : a < b := Int.not_le.mp (fun e => h ((iI_cmp_le hb ha).mpr e))
theorem iI_clamp {j : Nat} (h : j < 2147483648) : (iI (j : Int)).toNatClampNeg = j := by rw [iI_nat]; exact nI_clamp h
theorem iI_vpin {j N : Nat} (h : j < N) (hN : N < 2147483648) : vp_in (iI (j : Int)) N := by rw [iI_nat]; exact vp_in_nI h hN
theorem bI_eq_t {b : Bool} (h : bI b = 0) : b = false := by cases b <;> first | rfl | (exact absurd h (by decide))
theorem bI_eq_f {b : Bool} (h : ¬ bI b = 0) : b = true := by cases b <;> first | rfl | (exact absurd rfl h)
theorem bI_ne_t {b : Bool} (h : bI b ≠ 0) : b = true := bI_eq_f h
theorem bI_ne_f {b : Bool} (h : bI b = 0) : b = false := bI_eq_t h
abbrev PE : Type := (Nat × vp_A) ⊕ (Nat × List Value)
abbrev PW : Type := Nat → Option PE
abbrev PD : Type := (Nat → ClassId) × (Nat → Nat → Nat) × (Nat → ClassId)
abbrev eI (n : Nat) (f : Nat → Int32) : PE := .inl (0, n, .inl f)
abbrev eZ (n : Nat) (f : Nat → Int32) : PE := .inl (1, n, .inl f)
abbrev eQ (k n : Nat) (f : Nat → Option Nat) : PE := .inl (k, n, .inr (.inr (.inr (.inr f))))
abbrev eO (ci : Nat) (fs : List Value) : PE := .inr (ci, fs)
def pE (D : PD) : PE → va_E
  | .inl x => .inl (D.2.2 x.1, x.2)
  | .inr x => .inr x
def pG (D : PD) : va_G := (D.1, D.2.1)
def pT (D : PD) : List (ClassId × FieldType) := [(D.2.2 0, .int), (D.2.2 1, .int), (D.2.2 2, .object RX0), (D.2.2 3, .object RX3), (D.2.2 4, .object RX4)]
def pH (D : PD) (w : PW) (H : Heap) : Prop := ∀ (a : Nat) (e : PE), w a = some e → va_at (pG D) vwCl (a, pE D e) H
def pset (w : PW) (a : Nat) (e : PE) : PW := fun q => if q = a then some e else w q
theorem pset_eq (w : PW) (a : Nat) (e : PE) : pset w a e a = some e := by simp [pset]
theorem pset_ne (w : PW) {a b : Nat} (e : PE) (h : b ≠ a) : pset w a e b = w b := by simp [pset, h]
def pNest : Cond → Bool
  | .fieldLinkNest _ _ _ _ _ _ => true
  | .arrayOver (.object _) => true
  | _ => false
def PT : List Cond := lw_tbl.filter goodWord
def PN : List Cond := tables_1.filter pNest
theorem PT_of {x : Cond} (h : x ∈ lw_tbl) (g : goodWord x = true) : x ∈ PT := List.mem_filter.mpr ⟨h, g⟩
theorem PT_t {x : Cond} (i : Nat) (h : tables_1[i]? = some x) (g : goodWord x = true) : x ∈ PT := PT_of (List.mem_append_right _ (List.mem_of_getElem? h)) g
theorem PN_t {x : Cond} (i : Nat) (h : tables_1[i]? = some x) (g : pNest x = true) : x ∈ PN := List.mem_filter.mpr ⟨List.mem_of_getElem? h, g⟩
theorem PT_good {x : Cond} (h : x ∈ PT) : goodWord x = true := (List.mem_filter.mp h).2
theorem PT_in : GoodIn PT PT := fun _ h => ⟨h, good_of_word (PT_good h)⟩
theorem PT_cons {x : Cond} (h : x ∈ PT) : GoodIn PT (x :: PT) := fun _ hw => (List.mem_cons.mp hw).elim (fun e => e ▸ ⟨h, good_of_word (PT_good h)⟩) (fun h => PT_in _ h)
def pK (D : PD) (U : State) : Prop := va_K (pG D) vwCl (pT D) U ∧ ∀ x ∈ PN, va_Nw x U
theorem pK.moved {D : PD} {u U : State} (hW : u.WarmedH U.vm) (h : pK D u) : pK D U := by
  refine ⟨va_K.moved hW.alike h.1, fun x hx => ?_⟩
  have h2 := h.2 x hx
  obtain ⟨-, hn⟩ := List.mem_filter.mp hx
  cases x <;> first | (cases hn; done) | exact va_Nw.warmF hW h2 | skip
  rename_i ty
  cases ty <;> first | (cases hn; done) | exact va_AO.moved hW.alike h2
/-- code, own class, locals, what it returns, name; room; which cells it may write; where it goes -/
abbrev PS : Type := (ByteArray × String × Nat × Option FieldType × String) × Room × (Nat → Prop) × (PD → List Frame → Array Value → State → (State → Prop) → Prop)
def pC (S : PS) (D : PD) (p : Program) (s : State) (m : MethodId) (args : Array Value) (meth : Method) (c : Code) : Prop :=
  p.tables.exec = Jvm.exec ∧ c.code = S.1.1 ∧ c.maxLocals = S.1.2.2.1 ∧ s.vm.findClass S.1.2.1 = some m.cls ∧ (∀ x ∈ PT, x.before args s = true) ∧ meth.sig.returnType = S.1.2.2.2.1 ∧ meth.name = S.1.2.2.2.2 ∧ meth.locks = false ∧ pK D s
def pA (w : PW) (n : Nat) : Nat → Prop := fun q => (w q).isSome = true ∨ n ≤ q
def Wp (S : PS) (pc : Nat) (lv : List (Nat × Value)) (st : List Value) (w : PW) (n ce sl : Nat) : Prop :=
  ∀ (D : PD) (p : Program) (l : Launch) (e : Env) (s : State) (m : MethodId) (args : Array Value) (below : List Frame) (meth : Method) (c : Code) (H : Heap) (locs : List Loc) (ls : Array Slot) (Q : State → Prop),
    pC S D p s m args meth c → S.2.2.2 D below args s Q → lv_has ls S.1.2.2.1 lv → pH D w H → H.size = n → (∀ a, (w a).isSome = true → S.2.2.1 a) → (∀ q, s.heap.size ≤ q → S.2.2.1 q) → va_S S.2.2.1 s.heap H locs →
    W p l e S.2.1 s m args below meth c H locs ce sl Q (F0 m pc ls st)
/-- a method's end -/
def pQ (D : PD) (A : Nat → Prop) (Q : Option Value → PW → Nat → Prop) : Array Value → State → Outcome → State → Prop := fun _ st oc t => (∃ (v : Option Value) (w : PW), oc = .returned v ∧ Q v w t.heap.size ∧ pH D w t.heap ∧ (∀ a, (w a).isSome = true → A a) ∧ pK D t) ∧ va_F A st t
def mS (code : ByteArray) (own : String) (nL : Nat) (ret : Option FieldType) (name : String) (rm : Room) (A : Nat → Prop) (Q : Option Value → PW → Nat → Prop) : PS :=
  ((code, own, nL, ret, name), rm, A, fun D below args s Z => Z = MQ below (pQ D A Q) args s rm.cells rm.slots A)
/-- method y, called with args in the world w of n cells, comes back with Q -/
def Ctr (y : MethodName) (b : ByteArray) (L : Nat) (r : Option FieldType) (rm : Room) (args : List Value) (w : PW) (n : Nat) (Q : Option Value → PW → Nat → Prop) : Prop :=
  ∀ (l : Launch) (D : PD), Met l y (Cond.code y b L r :: PT) rm (va_Pc args (fun U => U.heap.size = n ∧ pH D w U.heap ∧ pK D U)) (pQ D (pA w n) Q) rm.cells rm.slots (pA w n)
def Ct1 (y : MethodName) (b : ByteArray) (L : Nat) (r : Option FieldType) (rm : Room) (args : List Value) (w : PW) (n : Nat) (Q : Value → PW → Nat → Prop) : Prop :=
  Ctr y b L r rm args w n (fun v w' n' => ∃ x, v = some x ∧ Q x w' n')
def Ct0 (y : MethodName) (b : ByteArray) (L : Nat) (r : Option FieldType) (rm : Room) (args : List Value) (w : PW) (n : Nat) (Q : PW → Nat → Prop) : Prop :=
  Ctr y b L r rm args w n (fun v w' n' => v = none ∧ Q w' n')
/-- a method that only reads -/
def CtR (y : MethodName) (b : ByteArray) (L : Nat) (r : Option FieldType) (rm : Room) (args : List Value) (w : PW) (n : Nat) (x : Value) : Prop :=
  Ct1 y b L r rm args w n (fun x' w' n' => x' = x ∧ w' = w ∧ n' = n)
theorem Ctr.of {y : MethodName} {b : ByteArray} {L : Nat} {r : Option FieldType} {rm : Room} {args : List Value} {w : PW} {n : Nat} {Q : Option Value → PW → Nat → Prop} (hy : plainName y.cls = true) (hL : (lg_sl args).length ≤ L)
    (body : ∀ S : PS, S = mS b y.cls L r y.name rm (pA w n) Q → Wp S 0 (lv_args 0 args) [] w n 0 0) : Ctr y b L r rm args w n Q := by
  intro l D
  refine Met.ofW (cc := b) (maxL := L) (ret := r) hy rfl ?_
  intro p e s m args' below meth c s₁ B hml hv
  obtain ⟨rfl, hsz, hP, hK⟩ := hv
  have hts := atoms_spec (ws := Cond.code y b L r :: PT) B.pre
  have hl := lv_entry args hL
  rw [lg_entry_eq]
  exact body _ rfl D p l e s m args.toArray below meth c s.heap [] _ _
    ⟨B.exec, B.bytes, hml, findClass_of_methodNamed B.named, fun x hx => hts x (List.mem_cons_of_mem _ hx), B.returns, (name_of_methodNamed B.named B.method).1, B.notSynchronized, hK⟩
    rfl hl hP hsz (fun a ha => Or.inl ha) (fun q hq => Or.inr (by rw [← hsz]; exact hq)) va_S.rf

theorem r_iconst {S : PS} {cc : ByteArray} {pc : Nat} {lv : List (Nat × Value)} {st : List Value} {w : PW} {n ce sl : Nat} {z : Int} (hb : S.1.1 = cc) (q : Nat) (hd : decode cc pc = .ok (.iconst z, 1)) (hq : pc + 1 = q)  (kk : Wp S q lv (.int (iI z) :: st) w n ce sl) : Wp S pc lv (st) w n ce sl := by
  intro D p l e s m args below meth c H locs ls Q hC hX hl hH hn hdm hs hS
  subst hb
  subst hq
  exact lv_iconst hC.1 hC.2.1 hd rfl (kk D p l e s m args below meth c H locs ls Q hC hX hl hH hn hdm hs hS)
theorem r_bipush {S : PS} {cc : ByteArray} {pc : Nat} {lv : List (Nat × Value)} {st : List Value} {w : PW} {n ce sl : Nat} {z : Int} (y : Int) (hb : S.1.1 = cc) (q : Nat) (hd : decode cc pc = .ok (.bipush z, 2)) (hq : pc + 2 = q) (hv : (Int8.ofInt z).toInt32 = iI y) (kk : Wp S q lv (.int (iI y) :: st) w n ce sl) : Wp S pc lv (st) w n ce sl := by
  intro D p l e s m args below meth c H locs ls Q hC hX hl hH hn hdm hs hS
  subst hb
  subst hq
  exact lv_bipush hC.1 hC.2.1 hd hv (kk D p l e s m args below meth c H locs ls Q hC hX hl hH hn hdm hs hS)
theorem r_sipush {S : PS} {cc : ByteArray} {pc : Nat} {lv : List (Nat × Value)} {st : List Value} {w : PW} {n ce sl : Nat} {z : Int} (y : Int) (hb : S.1.1 = cc) (q : Nat) (hd : decode cc pc = .ok (.sipush z, 3)) (hq : pc + 3 = q) (hv : (Int16.ofInt z).toInt32 = iI y) (kk : Wp S q lv (.int (iI y) :: st) w n ce sl) : Wp S pc lv (st) w n ce sl := by
  intro D p l e s m args below meth c H locs ls Q hC hX hl hH hn hdm hs hS
  subst hb
  subst hq
  exact lv_sipush hC.1 hC.2.1 hd hv (kk D p l e s m args below meth c H locs ls Q hC hX hl hH hn hdm hs hS)
theorem r_null {S : PS} {cc : ByteArray} {pc : Nat} {lv : List (Nat × Value)} {st : List Value} {w : PW} {n ce sl : Nat}  (hb : S.1.1 = cc) (q : Nat) (hd : decode cc pc = .ok (.aconst_null, 1)) (hq : pc + 1 = q)  (kk : Wp S q lv (.null :: st) w n ce sl) : Wp S pc lv (st) w n ce sl := by
  intro D p l e s m args below meth c H locs ls Q hC hX hl hH hn hdm hs hS
  subst hb
  subst hq
  exact lv_null hC.1 hC.2.1 hd (kk D p l e s m args below meth c H locs ls Q hC hX hl hH hn hdm hs hS)
theorem r_iload_n {S : PS} {cc : ByteArray} {pc : Nat} {lv : List (Nat × Value)} {st : List Value} {w : PW} {n ce sl : Nat} {k : Fin 4} {x : Int32} (hb : S.1.1 = cc) (q : Nat) (hd : decode cc pc = .ok (.iload_n k, 1)) (hq : pc + 1 = q) (i : Nat) (hl0 : lv[i]? = some ((k : Nat), Value.int x)) (kk : Wp S q lv (.int x :: st) w n ce sl) : Wp S pc lv (st) w n ce sl := by
  intro D p l e s m args below meth c H locs ls Q hC hX hl hH hn hdm hs hS
  subst hb
  subst hq
  exact lv_iload_n hC.1 hC.2.1 hd rfl (lv_at hl i hl0) (kk D p l e s m args below meth c H locs ls Q hC hX hl hH hn hdm hs hS)
theorem r_iload {S : PS} {cc : ByteArray} {pc : Nat} {lv : List (Nat × Value)} {st : List Value} {w : PW} {n ce sl : Nat} {k : Nat} {x : Int32} (hb : S.1.1 = cc) (q : Nat) (hd : decode cc pc = .ok (.iload k, 2)) (hq : pc + 2 = q) (i : Nat) (hl0 : lv[i]? = some (k, Value.int x)) (kk : Wp S q lv (.int x :: st) w n ce sl) : Wp S pc lv (st) w n ce sl := by
  intro D p l e s m args below meth c H locs ls Q hC hX hl hH hn hdm hs hS
  subst hb
  subst hq
  exact lv_iload hC.1 hC.2.1 hd (lv_at hl i hl0) (kk D p l e s m args below meth c H locs ls Q hC hX hl hH hn hdm hs hS)
theorem r_aload_n {S : PS} {cc : ByteArray} {pc : Nat} {lv : List (Nat × Value)} {st : List Value} {w : PW} {n ce sl : Nat} {k : Fin 4} {x : Nat} (hb : S.1.1 = cc) (q : Nat) (hd : decode cc pc = .ok (.aload_n k, 1)) (hq : pc + 1 = q) (i : Nat) (hl0 : lv[i]? = some ((k : Nat), Value.ref x)) (kk : Wp S q lv (.ref x :: st) w n ce sl) : Wp S pc lv (st) w n ce sl := by
  intro D p l e s m args below meth c H locs ls Q hC hX hl hH hn hdm hs hS
  subst hb
  subst hq
  exact lv_aload_n hC.1 hC.2.1 hd rfl (lv_at hl i hl0) (kk D p l e s m args below meth c H locs ls Q hC hX hl hH hn hdm hs hS)
theorem r_aload {S : PS} {cc : ByteArray} {pc : Nat} {lv : List (Nat × Value)} {st : List Value} {w : PW} {n ce sl : Nat} {k : Nat} {x : Nat} (hb : S.1.1 = cc) (q : Nat) (hd : decode cc pc = .ok (.aload k, 2)) (hq : pc + 2 = q) (i : Nat) (hl0 : lv[i]? = some (k, Value.ref x)) (kk : Wp S q lv (.ref x :: st) w n ce sl) : Wp S pc lv (st) w n ce sl := by
  intro D p l e s m args below meth c H locs ls Q hC hX hl hH hn hdm hs hS
  subst hb
  subst hq
  exact lv_aload hC.1 hC.2.1 hd (lv_at hl i hl0) (kk D p l e s m args below meth c H locs ls Q hC hX hl hH hn hdm hs hS)
theorem r_lload_n {S : PS} {cc : ByteArray} {pc : Nat} {lv : List (Nat × Value)} {st : List Value} {w : PW} {n ce sl : Nat} {k : Fin 4} {x : Int64} (hb : S.1.1 = cc) (q : Nat) (hd : decode cc pc = .ok (.lload_n k, 1)) (hq : pc + 1 = q) (i : Nat) (hl0 : lv[i]? = some ((k : Nat), Value.long x)) (kk : Wp S q lv (.long x :: st) w n ce sl) : Wp S pc lv (st) w n ce sl := by
  intro D p l e s m args below meth c H locs ls Q hC hX hl hH hn hdm hs hS
  subst hb
  subst hq
  exact lv_lload_n hC.1 hC.2.1 hd rfl (lv_at hl i hl0) (kk D p l e s m args below meth c H locs ls Q hC hX hl hH hn hdm hs hS)
theorem r_lload {S : PS} {cc : ByteArray} {pc : Nat} {lv : List (Nat × Value)} {st : List Value} {w : PW} {n ce sl : Nat} {k : Nat} {x : Int64} (hb : S.1.1 = cc) (q : Nat) (hd : decode cc pc = .ok (.lload k, 2)) (hq : pc + 2 = q) (i : Nat) (hl0 : lv[i]? = some (k, Value.long x)) (kk : Wp S q lv (.long x :: st) w n ce sl) : Wp S pc lv (st) w n ce sl := by
  intro D p l e s m args below meth c H locs ls Q hC hX hl hH hn hdm hs hS
  subst hb
  subst hq
  exact lv_lload hC.1 hC.2.1 hd (lv_at hl i hl0) (kk D p l e s m args below meth c H locs ls Q hC hX hl hH hn hdm hs hS)
theorem r_aload_nN {S : PS} {cc : ByteArray} {pc : Nat} {lv : List (Nat × Value)} {st : List Value} {w : PW} {n ce sl : Nat} {k : Fin 4} (hb : S.1.1 = cc) (q : Nat) (hd : decode cc pc = .ok (.aload_n k, 1)) (hq : pc + 1 = q) (i : Nat) (hl0 : lv[i]? = some ((k : Nat), Value.null)) (kk : Wp S q lv (.null :: st) w n ce sl) : Wp S pc lv (st) w n ce sl := by
  intro D p l e s m args below meth c H locs ls Q hC hX hl hH hn hdm hs hS
  subst hb
  subst hq
  exact lv_aload_nN hC.1 hC.2.1 hd rfl (lv_at hl i hl0) (kk D p l e s m args below meth c H locs ls Q hC hX hl hH hn hdm hs hS)
theorem r_aloadN {S : PS} {cc : ByteArray} {pc : Nat} {lv : List (Nat × Value)} {st : List Value} {w : PW} {n ce sl : Nat} {k : Nat} (hb : S.1.1 = cc) (q : Nat) (hd : decode cc pc = .ok (.aload k, 2)) (hq : pc + 2 = q) (i : Nat) (hl0 : lv[i]? = some (k, Value.null)) (kk : Wp S q lv (.null :: st) w n ce sl) : Wp S pc lv (st) w n ce sl := by
  intro D p l e s m args below meth c H locs ls Q hC hX hl hH hn hdm hs hS
  subst hb
  subst hq
  exact lv_aloadN hC.1 hC.2.1 hd (lv_at hl i hl0) (kk D p l e s m args below meth c H locs ls Q hC hX hl hH hn hdm hs hS)
def lset1 (lv : List (Nat × Value)) (i : Nat) (v : Value) : List (Nat × Value) := (i, v) :: lv.filter (fun q => !(q.1 == i) && !(q.1 + 1 == i && q.2.category == 2))
def lset2 (lv : List (Nat × Value)) (i : Nat) (v : Value) : List (Nat × Value) := (i, v) :: lv.filter (fun q => !(q.1 == i) && (!(q.1 == i + 1) && !(q.1 + 1 == i && q.2.category == 2)))
theorem r_istore_n {S : PS} {cc : ByteArray} {pc : Nat} {lv : List (Nat × Value)} {st : List Value} {w : PW} {n ce sl : Nat} {k : Fin 4} {i : Nat} {x : Int32} (lv1 : List (Nat × Value)) (hb : S.1.1 = cc) (q nL : Nat) (hd : decode cc pc = .ok (.istore_n k, 1)) (hq : pc + 1 = q) (hk : (k : Nat) = i) (hnL : S.1.2.2.1 = nL) (hi : i < nL) (hl1 : lset1 lv i (.int x) = lv1) (kk : Wp S q lv1 st w n ce sl) : Wp S pc lv (.int x :: st) w n ce sl := by
  intro D p l e s m args below meth c H locs ls Q hC hX hl hH hn hdm hs hS
  subst hb
  subst hq; subst hnL
  exact lv_istore_n hC.1 hC.2.1 hd hk hl hi hl1 (fun ls' hl => kk D p l e s m args below meth c H locs ls' Q hC hX hl hH hn hdm hs hS)
theorem r_istore {S : PS} {cc : ByteArray} {pc : Nat} {lv : List (Nat × Value)} {st : List Value} {w : PW} {n ce sl : Nat} {i : Nat} {x : Int32} (lv1 : List (Nat × Value)) (hb : S.1.1 = cc) (q nL : Nat) (hd : decode cc pc = .ok (.istore i, 2)) (hq : pc + 2 = q)  (hnL : S.1.2.2.1 = nL) (hi : i < nL) (hl1 : lset1 lv i (.int x) = lv1) (kk : Wp S q lv1 st w n ce sl) : Wp S pc lv (.int x :: st) w n ce sl := by
  intro D p l e s m args below meth c H locs ls Q hC hX hl hH hn hdm hs hS
  subst hb
  subst hq; subst hnL
  exact lv_istore hC.1 hC.2.1 hd  hl hi hl1 (fun ls' hl => kk D p l e s m args below meth c H locs ls' Q hC hX hl hH hn hdm hs hS)
theorem r_astore_n {S : PS} {cc : ByteArray} {pc : Nat} {lv : List (Nat × Value)} {st : List Value} {w : PW} {n ce sl : Nat} {k : Fin 4} {i : Nat} {x : Nat} (lv1 : List (Nat × Value)) (hb : S.1.1 = cc) (q nL : Nat) (hd : decode cc pc = .ok (.astore_n k, 1)) (hq : pc + 1 = q) (hk : (k : Nat) = i) (hnL : S.1.2.2.1 = nL) (hi : i < nL) (hl1 : lset1 lv i (.ref x) = lv1) (kk : Wp S q lv1 st w n ce sl) : Wp S pc lv (.ref x :: st) w n ce sl := by
  intro D p l e s m args below meth c H locs ls Q hC hX hl hH hn hdm hs hS
  subst hb
  subst hq; subst hnL
  exact lv_astore_n hC.1 hC.2.1 hd hk hl hi hl1 (fun ls' hl => kk D p l e s m args below meth c H locs ls' Q hC hX hl hH hn hdm hs hS)
theorem r_astore {S : PS} {cc : ByteArray} {pc : Nat} {lv : List (Nat × Value)} {st : List Value} {w : PW} {n ce sl : Nat} {i : Nat} {x : Nat} (lv1 : List (Nat × Value)) (hb : S.1.1 = cc) (q nL : Nat) (hd : decode cc pc = .ok (.astore i, 2)) (hq : pc + 2 = q)  (hnL : S.1.2.2.1 = nL) (hi : i < nL) (hl1 : lset1 lv i (.ref x) = lv1) (kk : Wp S q lv1 st w n ce sl) : Wp S pc lv (.ref x :: st) w n ce sl := by
  intro D p l e s m args below meth c H locs ls Q hC hX hl hH hn hdm hs hS
  subst hb
  subst hq; subst hnL
  exact lv_astore hC.1 hC.2.1 hd  hl hi hl1 (fun ls' hl => kk D p l e s m args below meth c H locs ls' Q hC hX hl hH hn hdm hs hS)
theorem r_lstore_n {S : PS} {cc : ByteArray} {pc : Nat} {lv : List (Nat × Value)} {st : List Value} {w : PW} {n ce sl : Nat} {k : Fin 4} {i : Nat} {x : Int64} (lv1 : List (Nat × Value)) (hb : S.1.1 = cc) (q nL : Nat) (hd : decode cc pc = .ok (.lstore_n k, 1)) (hq : pc + 1 = q) (hk : (k : Nat) = i) (hnL : S.1.2.2.1 = nL) (hi : i + 1 < nL) (hl1 : lset2 lv i (.long x) = lv1) (kk : Wp S q lv1 st w n ce sl) : Wp S pc lv (.long x :: st) w n ce sl := by
  intro D p l e s m args below meth c H locs ls Q hC hX hl hH hn hdm hs hS
  subst hb
  subst hq; subst hnL
  exact lv_lstore_n hC.1 hC.2.1 hd hk hl hi hl1 (fun ls' hl => kk D p l e s m args below meth c H locs ls' Q hC hX hl hH hn hdm hs hS)
theorem r_lstore {S : PS} {cc : ByteArray} {pc : Nat} {lv : List (Nat × Value)} {st : List Value} {w : PW} {n ce sl : Nat} {i : Nat} {x : Int64} (lv1 : List (Nat × Value)) (hb : S.1.1 = cc) (q nL : Nat) (hd : decode cc pc = .ok (.lstore i, 2)) (hq : pc + 2 = q)  (hnL : S.1.2.2.1 = nL) (hi : i + 1 < nL) (hl1 : lset2 lv i (.long x) = lv1) (kk : Wp S q lv1 st w n ce sl) : Wp S pc lv (.long x :: st) w n ce sl := by
  intro D p l e s m args below meth c H locs ls Q hC hX hl hH hn hdm hs hS
  subst hb
  subst hq; subst hnL
  exact lv_lstore hC.1 hC.2.1 hd  hl hi hl1 (fun ls' hl => kk D p l e s m args below meth c H locs ls' Q hC hX hl hH hn hdm hs hS)
theorem r_astore_nN {S : PS} {cc : ByteArray} {pc : Nat} {lv : List (Nat × Value)} {st : List Value} {w : PW} {n ce sl : Nat} {k : Fin 4} {i : Nat} (lv1 : List (Nat × Value)) (hb : S.1.1 = cc) (q nL : Nat) (hd : decode cc pc = .ok (.astore_n k, 1)) (hq : pc + 1 = q) (hk : (k : Nat) = i) (hnL : S.1.2.2.1 = nL) (hi : i < nL) (hl1 : lset1 lv i .null = lv1) (kk : Wp S q lv1 st w n ce sl) : Wp S pc lv (.null :: st) w n ce sl := by
  intro D p l e s m args below meth c H locs ls Q hC hX hl hH hn hdm hs hS
  subst hb
  subst hq; subst hnL
  exact lv_astore_nN hC.1 hC.2.1 hd hk hl hi hl1 (fun ls' hl => kk D p l e s m args below meth c H locs ls' Q hC hX hl hH hn hdm hs hS)
theorem r_astoreN {S : PS} {cc : ByteArray} {pc : Nat} {lv : List (Nat × Value)} {st : List Value} {w : PW} {n ce sl : Nat} {i : Nat} (lv1 : List (Nat × Value)) (hb : S.1.1 = cc) (q nL : Nat) (hd : decode cc pc = .ok (.astore i, 2)) (hq : pc + 2 = q)  (hnL : S.1.2.2.1 = nL) (hi : i < nL) (hl1 : lset1 lv i .null = lv1) (kk : Wp S q lv1 st w n ce sl) : Wp S pc lv (.null :: st) w n ce sl := by
  intro D p l e s m args below meth c H locs ls Q hC hX hl hH hn hdm hs hS
  subst hb
  subst hq; subst hnL
  exact lv_astoreN hC.1 hC.2.1 hd  hl hi hl1 (fun ls' hl => kk D p l e s m args below meth c H locs ls' Q hC hX hl hH hn hdm hs hS)
theorem r_iinc {S : PS} {cc : ByteArray} {pc : Nat} {lv : List (Nat × Value)} {st : List Value} {w : PW} {n ce sl : Nat} {i : Nat} {z : Int} {a : Int} (lv1 : List (Nat × Value)) (hb : S.1.1 = cc) (q nL k : Nat) (hd : decode cc pc = .ok (.iinc i z, 3)) (hq : pc + 3 = q) (hk : lv[k]? = some (i, .int (iI a))) (hnL : S.1.2.2.1 = nL) (hi : i < nL) (b : Int) (hab : a + z = b) (hl1 : lset1 lv i (.int (iI b)) = lv1) (kk : Wp S q lv1 st w n ce sl) : Wp S pc lv st w n ce sl := by
  intro D p l e s m args below meth c H locs ls Q hC hX hl hH hn hdm hs hS
  subst hb
  subst hq; subst hnL; subst hab
  exact lv_iinc hC.1 hC.2.1 hd hl hk (iI_add a z) hi hl1 (fun ls' hl => kk D p l e s m args below meth c H locs ls' Q hC hX hl hH hn hdm hs hS)
theorem r_lv {S : PS} {pc : Nat} {lv : List (Nat × Value)} {st : List Value} {w : PW} {n ce sl : Nat} (lv1 : List (Nat × Value)) (ks : List Nat) (hl1 : lv_pick lv ks = lv1) (kk : Wp S pc lv1 st w n ce sl) : Wp S pc lv st w n ce sl := by
  intro D p l e s m args below meth c H locs ls Q hC hX hl hH hn hdm hs hS
  exact kk D p l e s m args below meth c H locs ls Q hC hX (lv_sub hl ks hl1) hH hn hdm hs hS
theorem r_iadd {S : PS} {cc : ByteArray} {pc : Nat} {lv : List (Nat × Value)} {st : List Value} {w : PW} {n ce sl : Nat} {x y : Int32} (hb : S.1.1 = cc) (q : Nat) (hd : decode cc pc = .ok (.iadd, 1)) (hq : pc + 1 = q)  (kk : Wp S q lv (.int (x + y) :: st) w n ce sl) : Wp S pc lv (.int y :: .int x :: st) w n ce sl := by
  intro D p l e s m args below meth c H locs ls Q hC hX hl hH hn hdm hs hS
  subst hb
  subst hq
  exact lv_iadd hC.1 hC.2.1 hd (kk D p l e s m args below meth c H locs ls Q hC hX hl hH hn hdm hs hS)
theorem r_iaddZ {S : PS} {cc : ByteArray} {pc : Nat} {lv : List (Nat × Value)} {st : List Value} {w : PW} {n ce sl : Nat} {a b : Int} (hb : S.1.1 = cc) (q : Nat) (z : Int) (hd : decode cc pc = .ok (.iadd, 1)) (hq : pc + 1 = q) (hz : a + b = z) (kk : Wp S q lv (.int (iI z) :: st) w n ce sl) : Wp S pc lv (.int (iI b) :: .int (iI a) :: st) w n ce sl := by
  subst hz
  refine r_iadd hb q hd hq ?_
  rw [iI_add]
  exact kk
theorem r_isub {S : PS} {cc : ByteArray} {pc : Nat} {lv : List (Nat × Value)} {st : List Value} {w : PW} {n ce sl : Nat} {x y : Int32} (hb : S.1.1 = cc) (q : Nat) (hd : decode cc pc = .ok (.isub, 1)) (hq : pc + 1 = q)  (kk : Wp S q lv (.int (x - y) :: st) w n ce sl) : Wp S pc lv (.int y :: .int x :: st) w n ce sl := by
  intro D p l e s m args below meth c H locs ls Q hC hX hl hH hn hdm hs hS
  subst hb
  subst hq
  exact lv_isub hC.1 hC.2.1 hd (kk D p l e s m args below meth c H locs ls Q hC hX hl hH hn hdm hs hS)
theorem r_isubZ {S : PS} {cc : ByteArray} {pc : Nat} {lv : List (Nat × Value)} {st : List Value} {w : PW} {n ce sl : Nat} {a b : Int} (hb : S.1.1 = cc) (q : Nat) (z : Int) (hd : decode cc pc = .ok (.isub, 1)) (hq : pc + 1 = q) (hz : a - b = z) (kk : Wp S q lv (.int (iI z) :: st) w n ce sl) : Wp S pc lv (.int (iI b) :: .int (iI a) :: st) w n ce sl := by
  subst hz
  refine r_isub hb q hd hq ?_
  rw [iI_sub]
  exact kk
theorem r_imul {S : PS} {cc : ByteArray} {pc : Nat} {lv : List (Nat × Value)} {st : List Value} {w : PW} {n ce sl : Nat} {x y : Int32} (hb : S.1.1 = cc) (q : Nat) (hd : decode cc pc = .ok (.imul, 1)) (hq : pc + 1 = q)  (kk : Wp S q lv (.int (x * y) :: st) w n ce sl) : Wp S pc lv (.int y :: .int x :: st) w n ce sl := by
  intro D p l e s m args below meth c H locs ls Q hC hX hl hH hn hdm hs hS
  subst hb
  subst hq
  exact lv_imul hC.1 hC.2.1 hd (kk D p l e s m args below meth c H locs ls Q hC hX hl hH hn hdm hs hS)
theorem r_imulZ {S : PS} {cc : ByteArray} {pc : Nat} {lv : List (Nat × Value)} {st : List Value} {w : PW} {n ce sl : Nat} {a b : Int} (hb : S.1.1 = cc) (q : Nat) (z : Int) (hd : decode cc pc = .ok (.imul, 1)) (hq : pc + 1 = q) (hz : a * b = z) (kk : Wp S q lv (.int (iI z) :: st) w n ce sl) : Wp S pc lv (.int (iI b) :: .int (iI a) :: st) w n ce sl := by
  subst hz
  refine r_imul hb q hd hq ?_
  rw [iI_mul]
  exact kk
theorem r_ineg {S : PS} {cc : ByteArray} {pc : Nat} {lv : List (Nat × Value)} {st : List Value} {w : PW} {n ce sl : Nat} {x : Int32} (hb : S.1.1 = cc) (q : Nat) (hd : decode cc pc = .ok (.ineg, 1)) (hq : pc + 1 = q)  (kk : Wp S q lv (.int (-x) :: st) w n ce sl) : Wp S pc lv (.int x :: st) w n ce sl := by
  intro D p l e s m args below meth c H locs ls Q hC hX hl hH hn hdm hs hS
  subst hb
  subst hq
  exact lv_ineg hC.1 hC.2.1 hd (kk D p l e s m args below meth c H locs ls Q hC hX hl hH hn hdm hs hS)
theorem r_iand {S : PS} {cc : ByteArray} {pc : Nat} {lv : List (Nat × Value)} {st : List Value} {w : PW} {n ce sl : Nat} {x y : Int32} (hb : S.1.1 = cc) (q : Nat) (hd : decode cc pc = .ok (.iand, 1)) (hq : pc + 1 = q)  (kk : Wp S q lv (.int (x &&& y) :: st) w n ce sl) : Wp S pc lv (.int y :: .int x :: st) w n ce sl := by
  intro D p l e s m args below meth c H locs ls Q hC hX hl hH hn hdm hs hS
  subst hb
  subst hq
  exact lv_iand hC.1 hC.2.1 hd (kk D p l e s m args below meth c H locs ls Q hC hX hl hH hn hdm hs hS)
theorem r_idiv {S : PS} {cc : ByteArray} {pc : Nat} {lv : List (Nat × Value)} {st : List Value} {w : PW} {n ce sl : Nat} {x y : Int32} (hb : S.1.1 = cc) (q : Nat) (hd : decode cc pc = .ok (.idiv, 1)) (hq : pc + 1 = q) (hne : ¬ y = 0) (kk : Wp S q lv (.int (x / y) :: st) w n ce sl) : Wp S pc lv (.int y :: .int x :: st) w n ce sl := by
  intro D p l e s m args below meth c H locs ls Q hC hX hl hH hn hdm hs hS
  subst hb
  subst hq
  exact lv_idiv hC.1 hC.2.1 hd hne (kk D p l e s m args below meth c H locs ls Q hC hX hl hH hn hdm hs hS)
theorem r_ladd {S : PS} {cc : ByteArray} {pc : Nat} {lv : List (Nat × Value)} {st : List Value} {w : PW} {n ce sl : Nat} {x y : Int64} (hb : S.1.1 = cc) (q : Nat) (hd : decode cc pc = .ok (.ladd, 1)) (hq : pc + 1 = q)  (kk : Wp S q lv (.long (x + y) :: st) w n ce sl) : Wp S pc lv (.long y :: .long x :: st) w n ce sl := by
  intro D p l e s m args below meth c H locs ls Q hC hX hl hH hn hdm hs hS
  subst hb
  subst hq
  exact lv_ladd hC.1 hC.2.1 hd (kk D p l e s m args below meth c H locs ls Q hC hX hl hH hn hdm hs hS)
theorem r_lmul {S : PS} {cc : ByteArray} {pc : Nat} {lv : List (Nat × Value)} {st : List Value} {w : PW} {n ce sl : Nat} {x y : Int64} (hb : S.1.1 = cc) (q : Nat) (hd : decode cc pc = .ok (.lmul, 1)) (hq : pc + 1 = q)  (kk : Wp S q lv (.long (x * y) :: st) w n ce sl) : Wp S pc lv (.long y :: .long x :: st) w n ce sl := by
  intro D p l e s m args below meth c H locs ls Q hC hX hl hH hn hdm hs hS
  subst hb
  subst hq
  exact lv_lmul hC.1 hC.2.1 hd (kk D p l e s m args below meth c H locs ls Q hC hX hl hH hn hdm hs hS)
theorem r_i2l {S : PS} {cc : ByteArray} {pc : Nat} {lv : List (Nat × Value)} {st : List Value} {w : PW} {n ce sl : Nat} {x : Int32} (hb : S.1.1 = cc) (q : Nat) (hd : decode cc pc = .ok (.i2l, 1)) (hq : pc + 1 = q)  (kk : Wp S q lv (.long x.toInt64 :: st) w n ce sl) : Wp S pc lv (.int x :: st) w n ce sl := by
  intro D p l e s m args below meth c H locs ls Q hC hX hl hH hn hdm hs hS
  subst hb
  subst hq
  exact lv_i2l hC.1 hC.2.1 hd rfl (kk D p l e s m args below meth c H locs ls Q hC hX hl hH hn hdm hs hS)
theorem r_lcmp {S : PS} {cc : ByteArray} {pc : Nat} {lv : List (Nat × Value)} {st : List Value} {w : PW} {n ce sl : Nat} {x y : Int64} (hb : S.1.1 = cc) (q : Nat) (hd : decode cc pc = .ok (.lcmp, 1)) (hq : pc + 1 = q)  (kk : Wp S q lv (.int (lg_cmp x y) :: st) w n ce sl) : Wp S pc lv (.long y :: .long x :: st) w n ce sl := by
  intro D p l e s m args below meth c H locs ls Q hC hX hl hH hn hdm hs hS
  subst hb
  subst hq
  exact W.lcmp hC.1 hC.2.1 hd (kk D p l e s m args below meth c H locs ls Q hC hX hl hH hn hdm hs hS)
theorem r_dup {S : PS} {cc : ByteArray} {pc : Nat} {lv : List (Nat × Value)} {st : List Value} {w : PW} {n ce sl : Nat} {x : Value} (hb : S.1.1 = cc) (q : Nat) (hd : decode cc pc = .ok (.dup, 1)) (hq : pc + 1 = q) (hx : x.category = 1) (kk : Wp S q lv (x :: x :: st) w n ce sl) : Wp S pc lv (x :: st) w n ce sl := by
  intro D p l e s m args below meth c H locs ls Q hC hX hl hH hn hdm hs hS
  subst hb
  subst hq
  exact lv_dup hC.1 hC.2.1 hd hx (kk D p l e s m args below meth c H locs ls Q hC hX hl hH hn hdm hs hS)
theorem r_dup2 {S : PS} {cc : ByteArray} {pc : Nat} {lv : List (Nat × Value)} {st : List Value} {w : PW} {n ce sl : Nat} {x y : Value} (hb : S.1.1 = cc) (q : Nat) (hd : decode cc pc = .ok (.dup2, 1)) (hq : pc + 1 = q) (hx : x.category = 1) (hy : y.category = 1) (kk : Wp S q lv (x :: y :: x :: y :: st) w n ce sl) : Wp S pc lv (x :: y :: st) w n ce sl := by
  intro D p l e s m args below meth c H locs ls Q hC hX hl hH hn hdm hs hS
  subst hb
  subst hq
  exact lv_dup2_11 hC.1 hC.2.1 hd hx hy (kk D p l e s m args below meth c H locs ls Q hC hX hl hH hn hdm hs hS)
theorem r_topz {S : PS} {pc : Nat} {lv : List (Nat × Value)} {st : List Value} {w : PW} {n ce sl : Nat} {x : Int32} (z : Int) (h : x = iI z) (kk : Wp S pc lv (.int (iI z) :: st) w n ce sl) : Wp S pc lv (.int x :: st) w n ce sl := by rw [h]; exact kk
theorem r_topv {S : PS} {pc : Nat} {lv : List (Nat × Value)} {st : List Value} {w : PW} {n ce sl : Nat} {x : Value} (y : Value) (h : x = y) (kk : Wp S pc lv (y :: st) w n ce sl) : Wp S pc lv (x :: st) w n ce sl := by rw [h]; exact kk
theorem r_goto {S : PS} {cc : ByteArray} {pc : Nat} {lv : List (Nat × Value)} {st : List Value} {w : PW} {n ce sl : Nat} {off : Int} (hb : S.1.1 = cc) (tgt : Nat) (hd : decode cc pc = .ok (.goto off, 3)) (ht : (pc : Int) + off = (tgt : Int)) (kk : Wp S tgt lv st w n ce sl) : Wp S pc lv st w n ce sl := by
  intro D p l e s m args below meth c H locs ls Q hC hX hl hH hn hdm hs hS
  subst hb
  exact lv_goto hC.1 hC.2.1 hd ht (kk D p l e s m args below meth c H locs ls Q hC hX hl hH hn hdm hs hS)
theorem r_icmp_eq {S : PS} {cc : ByteArray} {pc : Nat} {lv : List (Nat × Value)} {st : List Value} {w : PW} {n ce sl : Nat} {a b off : Int} (hb : S.1.1 = cc) (q tgt : Nat) (hd : decode cc pc = .ok (.if_icmp .eq off, 3)) (hq : pc + 3 = q) (ht : (pc : Int) + off = (tgt : Int)) (ha : (-2147483648 ≤ a ∧ a < 2147483648)) (hbb : (-2147483648 ≤ b ∧ b < 2147483648)) (kt : a = b → Wp S tgt lv st w n ce sl) (kf : ¬ a = b → Wp S q lv st w n ce sl) : Wp S pc lv (.int (iI b) :: .int (iI a) :: st) w n ce sl := by
  intro D p l e s m args below meth c H locs ls Q hC hX hl hH hn hdm hs hS
  subst hb
  subst hq
  exact lv_icmp_eq hC.1 hC.2.1 hd ht (fun h => kt (iI_eq_t ha hbb h) D p l e s m args below meth c H locs ls Q hC hX hl hH hn hdm hs hS) (fun h => kf (iI_eq_f ha hbb h) D p l e s m args below meth c H locs ls Q hC hX hl hH hn hdm hs hS)
theorem r_if_eq {S : PS} {cc : ByteArray} {pc : Nat} {lv : List (Nat × Value)} {st : List Value} {w : PW} {n ce sl : Nat} {a off : Int} (hb : S.1.1 = cc) (q tgt : Nat) (hd : decode cc pc = .ok (.ifCond .eq off, 3)) (hq : pc + 3 = q) (ht : (pc : Int) + off = (tgt : Int)) (ha : (-2147483648 ≤ a ∧ a < 2147483648)) (kt : a = 0 → Wp S tgt lv st w n ce sl) (kf : ¬ a = 0 → Wp S q lv st w n ce sl) : Wp S pc lv (.int (iI a) :: st) w n ce sl := by
  intro D p l e s m args below meth c H locs ls Q hC hX hl hH hn hdm hs hS
  subst hb
  subst hq
  exact lv_if_eq hC.1 hC.2.1 hd ht (fun h => kt (iI_eq_t ha (by decide) h) D p l e s m args below meth c H locs ls Q hC hX hl hH hn hdm hs hS) (fun h => kf (iI_eq_f ha (by decide) h) D p l e s m args below meth c H locs ls Q hC hX hl hH hn hdm hs hS)
theorem r_icmp_ne {S : PS} {cc : ByteArray} {pc : Nat} {lv : List (Nat × Value)} {st : List Value} {w : PW} {n ce sl : Nat} {a b off : Int} (hb : S.1.1 = cc) (q tgt : Nat) (hd : decode cc pc = .ok (.if_icmp .ne off, 3)) (hq : pc + 3 = q) (ht : (pc : Int) + off = (tgt : Int)) (ha : (-2147483648 ≤ a ∧ a < 2147483648)) (hbb : (-2147483648 ≤ b ∧ b < 2147483648)) (kt : ¬ a = b → Wp S tgt lv st w n ce sl) (kf : a = b → Wp S q lv st w n ce sl) : Wp S pc lv (.int (iI b) :: .int (iI a) :: st) w n ce sl := by
  intro D p l e s m args below meth c H locs ls Q hC hX hl hH hn hdm hs hS
  subst hb
  subst hq
  exact lv_icmp_ne hC.1 hC.2.1 hd ht (fun h => kt (iI_ne_t ha hbb h) D p l e s m args below meth c H locs ls Q hC hX hl hH hn hdm hs hS) (fun h => kf (iI_ne_f ha hbb h) D p l e s m args below meth c H locs ls Q hC hX hl hH hn hdm hs hS)
theorem r_if_ne {S : PS} {cc : ByteArray} {pc : Nat} {lv : List (Nat × Value)} {st : List Value} {w : PW} {n ce sl : Nat} {a off : Int} (hb : S.1.1 = cc) (q tgt : Nat) (hd : decode cc pc = .ok (.ifCond .ne off, 3)) (hq : pc + 3 = q) (ht : (pc : Int) + off = (tgt : Int)) (ha : (-2147483648 ≤ a ∧ a < 2147483648)) (kt : ¬ a = 0 → Wp S tgt lv st w n ce sl) (kf : a = 0 → Wp S q lv st w n ce sl) : Wp S pc lv (.int (iI a) :: st) w n ce sl := by
  intro D p l e s m args below meth c H locs ls Q hC hX hl hH hn hdm hs hS
  subst hb
  subst hq
  exact lv_if_ne hC.1 hC.2.1 hd ht (fun h => kt (iI_ne_t ha (by decide) h) D p l e s m args below meth c H locs ls Q hC hX hl hH hn hdm hs hS) (fun h => kf (iI_ne_f ha (by decide) h) D p l e s m args below meth c H locs ls Q hC hX hl hH hn hdm hs hS)
theorem r_icmp_lt {S : PS} {cc : ByteArray} {pc : Nat} {lv : List (Nat × Value)} {st : List Value} {w : PW} {n ce sl : Nat} {a b off : Int} (hb : S.1.1 = cc) (q tgt : Nat) (hd : decode cc pc = .ok (.if_icmp .lt off, 3)) (hq : pc + 3 = q) (ht : (pc : Int) + off = (tgt : Int)) (ha : (-2147483648 ≤ a ∧ a < 2147483648)) (hbb : (-2147483648 ≤ b ∧ b < 2147483648)) (kt : a < b → Wp S tgt lv st w n ce sl) (kf : b ≤ a → Wp S q lv st w n ce sl) : Wp S pc lv (.int (iI b) :: .int (iI a) :: st) w n ce sl := by
  intro D p l e s m args below meth c H locs ls Q hC hX hl hH hn hdm hs hS
  subst hb
  subst hq
  exact lv_icmp_lt hC.1 hC.2.1 hd ht (fun h => kt (iI_lt_t ha hbb h) D p l e s m args below meth c H locs ls Q hC hX hl hH hn hdm hs hS) (fun h => kf (iI_lt_f ha hbb h) D p l e s m args below meth c H locs ls Q hC hX hl hH hn hdm hs hS)
theorem r_if_lt {S : PS} {cc : ByteArray} {pc : Nat} {lv : List (Nat × Value)} {st : List Value} {w : PW} {n ce sl : Nat} {a off : Int} (hb : S.1.1 = cc) (q tgt : Nat) (hd : decode cc pc = .ok (.ifCond .lt off, 3)) (hq : pc + 3 = q) (ht : (pc : Int) + off = (tgt : Int)) (ha : (-2147483648 ≤ a ∧ a < 2147483648)) (kt : a < 0 → Wp S tgt lv st w n ce sl) (kf : 0 ≤ a → Wp S q lv st w n ce sl) : Wp S pc lv (.int (iI a) :: st) w n ce sl := by
  intro D p l e s m args below meth c H locs ls Q hC hX hl hH hn hdm hs hS
  subst hb
  subst hq
  exact lv_if_lt hC.1 hC.2.1 hd ht (fun h => kt (iI_lt_t ha (by decide) h) D p l e s m args below meth c H locs ls Q hC hX hl hH hn hdm hs hS) (fun h => kf (iI_lt_f ha (by decide) h) D p l e s m args below meth c H locs ls Q hC hX hl hH hn hdm hs hS)
theorem r_icmp_ge {S : PS} {cc : ByteArray} {pc : Nat} {lv : List (Nat × Value)} {st : List Value} {w : PW} {n ce sl : Nat} {a b off : Int} (hb : S.1.1 = cc) (q tgt : Nat) (hd : decode cc pc = .ok (.if_icmp .ge off, 3)) (hq : pc + 3 = q) (ht : (pc : Int) + off = (tgt : Int)) (ha : (-2147483648 ≤ a ∧ a < 2147483648)) (hbb : (-2147483648 ≤ b ∧ b < 2147483648)) (kt : b ≤ a → Wp S tgt lv st w n ce sl) (kf : a < b → Wp S q lv st w n ce sl) : Wp S pc lv (.int (iI b) :: .int (iI a) :: st) w n ce sl := by
  intro D p l e s m args below meth c H locs ls Q hC hX hl hH hn hdm hs hS
  subst hb
  subst hq
  exact lv_icmp_ge hC.1 hC.2.1 hd ht (fun h => kt (iI_ge_t ha hbb h) D p l e s m args below meth c H locs ls Q hC hX hl hH hn hdm hs hS) (fun h => kf (iI_ge_f ha hbb h) D p l e s m args below meth c H locs ls Q hC hX hl hH hn hdm hs hS)
theorem r_if_ge {S : PS} {cc : ByteArray} {pc : Nat} {lv : List (Nat × Value)} {st : List Value} {w : PW} {n ce sl : Nat} {a off : Int} (hb : S.1.1 = cc) (q tgt : Nat) (hd : decode cc pc = .ok (.ifCond .ge off, 3)) (hq : pc + 3 = q) (ht : (pc : Int) + off = (tgt : Int)) (ha : (-2147483648 ≤ a ∧ a < 2147483648)) (kt : 0 ≤ a → Wp S tgt lv st w n ce sl) (kf : a < 0 → Wp S q lv st w n ce sl) : Wp S pc lv (.int (iI a) :: st) w n ce sl := by
  intro D p l e s m args below meth c H locs ls Q hC hX hl hH hn hdm hs hS
  subst hb
  subst hq
  exact lv_if_ge hC.1 hC.2.1 hd ht (fun h => kt (iI_ge_t ha (by decide) h) D p l e s m args below meth c H locs ls Q hC hX hl hH hn hdm hs hS) (fun h => kf (iI_ge_f ha (by decide) h) D p l e s m args below meth c H locs ls Q hC hX hl hH hn hdm hs hS)
theorem r_icmp_gt {S : PS} {cc : ByteArray} {pc : Nat} {lv : List (Nat × Value)} {st : List Value} {w : PW} {n ce sl : Nat} {a b off : Int} (hb : S.1.1 = cc) (q tgt : Nat) (hd : decode cc pc = .ok (.if_icmp .gt off, 3)) (hq : pc + 3 = q) (ht : (pc : Int) + off = (tgt : Int)) (ha : (-2147483648 ≤ a ∧ a < 2147483648)) (hbb : (-2147483648 ≤ b ∧ b < 2147483648)) (kt : b < a → Wp S tgt lv st w n ce sl) (kf : a ≤ b → Wp S q lv st w n ce sl) : Wp S pc lv (.int (iI b) :: .int (iI a) :: st) w n ce sl := by
  intro D p l e s m args below meth c H locs ls Q hC hX hl hH hn hdm hs hS
  subst hb
  subst hq
  exact lv_icmp_gt hC.1 hC.2.1 hd ht (fun h => kt (iI_gt_t ha hbb h) D p l e s m args below meth c H locs ls Q hC hX hl hH hn hdm hs hS) (fun h => kf (iI_gt_f ha hbb h) D p l e s m args below meth c H locs ls Q hC hX hl hH hn hdm hs hS)
theorem r_if_gt {S : PS} {cc : ByteArray} {pc : Nat} {lv : List (Nat × Value)} {st : List Value} {w : PW} {n ce sl : Nat} {a off : Int} (hb : S.1.1 = cc) (q tgt : Nat) (hd : decode cc pc = .ok (.ifCond .gt off, 3)) (hq : pc + 3 = q) (ht : (pc : Int) + off = (tgt : Int)) (ha : (-2147483648 ≤ a ∧ a < 2147483648)) (kt : 0 < a → Wp S tgt lv st w n ce sl) (kf : a ≤ 0 → Wp S q lv st w n ce sl) : Wp S pc lv (.int (iI a) :: st) w n ce sl := by
  intro D p l e s m args below meth c H locs ls Q hC hX hl hH hn hdm hs hS
  subst hb
  subst hq
  exact lv_if_gt hC.1 hC.2.1 hd ht (fun h => kt (iI_gt_t ha (by decide) h) D p l e s m args below meth c H locs ls Q hC hX hl hH hn hdm hs hS) (fun h => kf (iI_gt_f ha (by decide) h) D p l e s m args below meth c H locs ls Q hC hX hl hH hn hdm hs hS)
theorem r_icmp_le {S : PS} {cc : ByteArray} {pc : Nat} {lv : List (Nat × Value)} {st : List Value} {w : PW} {n ce sl : Nat} {a b off : Int} (hb : S.1.1 = cc) (q tgt : Nat) (hd : decode cc pc = .ok (.if_icmp .le off, 3)) (hq : pc + 3 = q) (ht : (pc : Int) + off = (tgt : Int)) (ha : (-2147483648 ≤ a ∧ a < 2147483648)) (hbb : (-2147483648 ≤ b ∧ b < 2147483648)) (kt : a ≤ b → Wp S tgt lv st w n ce sl) (kf : b < a → Wp S q lv st w n ce sl) : Wp S pc lv (.int (iI b) :: .int (iI a) :: st) w n ce sl := by
  intro D p l e s m args below meth c H locs ls Q hC hX hl hH hn hdm hs hS
  subst hb
  subst hq
  exact lv_icmp_le hC.1 hC.2.1 hd ht (fun h => kt (iI_le_t ha hbb h) D p l e s m args below meth c H locs ls Q hC hX hl hH hn hdm hs hS) (fun h => kf (iI_le_f ha hbb h) D p l e s m args below meth c H locs ls Q hC hX hl hH hn hdm hs hS)
theorem r_if_le {S : PS} {cc : ByteArray} {pc : Nat} {lv : List (Nat × Value)} {st : List Value} {w : PW} {n ce sl : Nat} {a off : Int} (hb : S.1.1 = cc) (q tgt : Nat) (hd : decode cc pc = .ok (.ifCond .le off, 3)) (hq : pc + 3 = q) (ht : (pc : Int) + off = (tgt : Int)) (ha : (-2147483648 ≤ a ∧ a < 2147483648)) (kt : a ≤ 0 → Wp S tgt lv st w n ce sl) (kf : 0 < a → Wp S q lv st w n ce sl) : Wp S pc lv (.int (iI a) :: st) w n ce sl := by
  intro D p l e s m args below meth c H locs ls Q hC hX hl hH hn hdm hs hS
  subst hb
  subst hq
  exact lv_if_le hC.1 hC.2.1 hd ht (fun h => kt (iI_le_t ha (by decide) h) D p l e s m args below meth c H locs ls Q hC hX hl hH hn hdm hs hS) (fun h => kf (iI_le_f ha (by decide) h) D p l e s m args below meth c H locs ls Q hC hX hl hH hn hdm hs hS)
theorem r_icmpR_eq {S : PS} {cc : ByteArray} {pc : Nat} {lv : List (Nat × Value)} {st : List Value} {w : PW} {n ce sl : Nat} {x y : Int32} {off : Int} (hb : S.1.1 = cc) (q tgt : Nat) (hd : decode cc pc = .ok (.if_icmp .eq off, 3)) (hq : pc + 3 = q) (ht : (pc : Int) + off = (tgt : Int)) (kt : x = y → Wp S tgt lv st w n ce sl) (kf : ¬ (x = y) → Wp S q lv st w n ce sl) : Wp S pc lv (.int y :: .int x :: st) w n ce sl := by
  intro D p l e s m args below meth c H locs ls Q hC hX hl hH hn hdm hs hS
  subst hb
  subst hq
  exact lv_icmp_eq hC.1 hC.2.1 hd ht (fun h => kt h D p l e s m args below meth c H locs ls Q hC hX hl hH hn hdm hs hS) (fun h => kf h D p l e s m args below meth c H locs ls Q hC hX hl hH hn hdm hs hS)
theorem r_icmpR_ne {S : PS} {cc : ByteArray} {pc : Nat} {lv : List (Nat × Value)} {st : List Value} {w : PW} {n ce sl : Nat} {x y : Int32} {off : Int} (hb : S.1.1 = cc) (q tgt : Nat) (hd : decode cc pc = .ok (.if_icmp .ne off, 3)) (hq : pc + 3 = q) (ht : (pc : Int) + off = (tgt : Int)) (kt : x ≠ y → Wp S tgt lv st w n ce sl) (kf : x = y → Wp S q lv st w n ce sl) : Wp S pc lv (.int y :: .int x :: st) w n ce sl := by
  intro D p l e s m args below meth c H locs ls Q hC hX hl hH hn hdm hs hS
  subst hb
  subst hq
  exact lv_icmp_ne hC.1 hC.2.1 hd ht (fun h => kt h D p l e s m args below meth c H locs ls Q hC hX hl hH hn hdm hs hS) (fun h => kf h D p l e s m args below meth c H locs ls Q hC hX hl hH hn hdm hs hS)
theorem r_icmpR_lt {S : PS} {cc : ByteArray} {pc : Nat} {lv : List (Nat × Value)} {st : List Value} {w : PW} {n ce sl : Nat} {x y : Int32} {off : Int} (hb : S.1.1 = cc) (q tgt : Nat) (hd : decode cc pc = .ok (.if_icmp .lt off, 3)) (hq : pc + 3 = q) (ht : (pc : Int) + off = (tgt : Int)) (kt : x < y → Wp S tgt lv st w n ce sl) (kf : ¬ (x < y) → Wp S q lv st w n ce sl) : Wp S pc lv (.int y :: .int x :: st) w n ce sl := by
  intro D p l e s m args below meth c H locs ls Q hC hX hl hH hn hdm hs hS
  subst hb
  subst hq
  exact lv_icmp_lt hC.1 hC.2.1 hd ht (fun h => kt h D p l e s m args below meth c H locs ls Q hC hX hl hH hn hdm hs hS) (fun h => kf h D p l e s m args below meth c H locs ls Q hC hX hl hH hn hdm hs hS)
theorem r_icmpR_ge {S : PS} {cc : ByteArray} {pc : Nat} {lv : List (Nat × Value)} {st : List Value} {w : PW} {n ce sl : Nat} {x y : Int32} {off : Int} (hb : S.1.1 = cc) (q tgt : Nat) (hd : decode cc pc = .ok (.if_icmp .ge off, 3)) (hq : pc + 3 = q) (ht : (pc : Int) + off = (tgt : Int)) (kt : y ≤ x → Wp S tgt lv st w n ce sl) (kf : ¬ (y ≤ x) → Wp S q lv st w n ce sl) : Wp S pc lv (.int y :: .int x :: st) w n ce sl := by
  intro D p l e s m args below meth c H locs ls Q hC hX hl hH hn hdm hs hS
  subst hb
  subst hq
  exact lv_icmp_ge hC.1 hC.2.1 hd ht (fun h => kt h D p l e s m args below meth c H locs ls Q hC hX hl hH hn hdm hs hS) (fun h => kf h D p l e s m args below meth c H locs ls Q hC hX hl hH hn hdm hs hS)
theorem r_icmpR_gt {S : PS} {cc : ByteArray} {pc : Nat} {lv : List (Nat × Value)} {st : List Value} {w : PW} {n ce sl : Nat} {x y : Int32} {off : Int} (hb : S.1.1 = cc) (q tgt : Nat) (hd : decode cc pc = .ok (.if_icmp .gt off, 3)) (hq : pc + 3 = q) (ht : (pc : Int) + off = (tgt : Int)) (kt : y < x → Wp S tgt lv st w n ce sl) (kf : ¬ (y < x) → Wp S q lv st w n ce sl) : Wp S pc lv (.int y :: .int x :: st) w n ce sl := by
  intro D p l e s m args below meth c H locs ls Q hC hX hl hH hn hdm hs hS
  subst hb
  subst hq
  exact lv_icmp_gt hC.1 hC.2.1 hd ht (fun h => kt h D p l e s m args below meth c H locs ls Q hC hX hl hH hn hdm hs hS) (fun h => kf h D p l e s m args below meth c H locs ls Q hC hX hl hH hn hdm hs hS)
theorem r_icmpR_le {S : PS} {cc : ByteArray} {pc : Nat} {lv : List (Nat × Value)} {st : List Value} {w : PW} {n ce sl : Nat} {x y : Int32} {off : Int} (hb : S.1.1 = cc) (q tgt : Nat) (hd : decode cc pc = .ok (.if_icmp .le off, 3)) (hq : pc + 3 = q) (ht : (pc : Int) + off = (tgt : Int)) (kt : x ≤ y → Wp S tgt lv st w n ce sl) (kf : ¬ (x ≤ y) → Wp S q lv st w n ce sl) : Wp S pc lv (.int y :: .int x :: st) w n ce sl := by
  intro D p l e s m args below meth c H locs ls Q hC hX hl hH hn hdm hs hS
  subst hb
  subst hq
  exact lv_icmp_le hC.1 hC.2.1 hd ht (fun h => kt h D p l e s m args below meth c H locs ls Q hC hX hl hH hn hdm hs hS) (fun h => kf h D p l e s m args below meth c H locs ls Q hC hX hl hH hn hdm hs hS)
theorem r_ifb_eq {S : PS} {cc : ByteArray} {pc : Nat} {lv : List (Nat × Value)} {st : List Value} {w : PW} {n ce sl : Nat} {b : Bool} {off : Int} (hb : S.1.1 = cc) (q tgt : Nat) (hd : decode cc pc = .ok (.ifCond .eq off, 3)) (hq : pc + 3 = q) (ht : (pc : Int) + off = (tgt : Int)) (kt : b = false → Wp S tgt lv st w n ce sl) (kf : b = true → Wp S q lv st w n ce sl) : Wp S pc lv (.int (bI b) :: st) w n ce sl := by
  intro D p l e s m args below meth c H locs ls Q hC hX hl hH hn hdm hs hS
  subst hb
  subst hq
  exact lv_if_eq hC.1 hC.2.1 hd ht (fun h => kt (bI_eq_t h) D p l e s m args below meth c H locs ls Q hC hX hl hH hn hdm hs hS) (fun h => kf (bI_eq_f h) D p l e s m args below meth c H locs ls Q hC hX hl hH hn hdm hs hS)
theorem r_ifb_ne {S : PS} {cc : ByteArray} {pc : Nat} {lv : List (Nat × Value)} {st : List Value} {w : PW} {n ce sl : Nat} {b : Bool} {off : Int} (hb : S.1.1 = cc) (q tgt : Nat) (hd : decode cc pc = .ok (.ifCond .ne off, 3)) (hq : pc + 3 = q) (ht : (pc : Int) + off = (tgt : Int)) (kt : b = true → Wp S tgt lv st w n ce sl) (kf : b = false → Wp S q lv st w n ce sl) : Wp S pc lv (.int (bI b) :: st) w n ce sl := by
  intro D p l e s m args below meth c H locs ls Q hC hX hl hH hn hdm hs hS
  subst hb
  subst hq
  exact lv_if_ne hC.1 hC.2.1 hd ht (fun h => kt (bI_ne_t h) D p l e s m args below meth c H locs ls Q hC hX hl hH hn hdm hs hS) (fun h => kf (bI_ne_f h) D p l e s m args below meth c H locs ls Q hC hX hl hH hn hdm hs hS)
theorem r_if0_ne {S : PS} {cc : ByteArray} {pc : Nat} {lv : List (Nat × Value)} {st : List Value} {w : PW} {n ce sl : Nat} {x : Int32} {off : Int} (hb : S.1.1 = cc) (q tgt : Nat) (hd : decode cc pc = .ok (.ifCond .ne off, 3)) (hq : pc + 3 = q) (ht : (pc : Int) + off = (tgt : Int)) (kt : ¬ x = 0 → Wp S tgt lv st w n ce sl) (kf : x = 0 → Wp S q lv st w n ce sl) : Wp S pc lv (.int x :: st) w n ce sl := by
  intro D p l e s m args below meth c H locs ls Q hC hX hl hH hn hdm hs hS
  subst hb
  subst hq
  exact lv_if_ne hC.1 hC.2.1 hd ht (fun h => kt h D p l e s m args below meth c H locs ls Q hC hX hl hH hn hdm hs hS) (fun h => kf h D p l e s m args below meth c H locs ls Q hC hX hl hH hn hdm hs hS)
theorem r_if0_eq {S : PS} {cc : ByteArray} {pc : Nat} {lv : List (Nat × Value)} {st : List Value} {w : PW} {n ce sl : Nat} {x : Int32} {off : Int} (hb : S.1.1 = cc) (q tgt : Nat) (hd : decode cc pc = .ok (.ifCond .eq off, 3)) (hq : pc + 3 = q) (ht : (pc : Int) + off = (tgt : Int)) (kt : x = 0 → Wp S tgt lv st w n ce sl) (kf : ¬ x = 0 → Wp S q lv st w n ce sl) : Wp S pc lv (.int x :: st) w n ce sl := by
  intro D p l e s m args below meth c H locs ls Q hC hX hl hH hn hdm hs hS
  subst hb
  subst hq
  exact lv_if_eq hC.1 hC.2.1 hd ht (fun h => kt h D p l e s m args below meth c H locs ls Q hC hX hl hH hn hdm hs hS) (fun h => kf h D p l e s m args below meth c H locs ls Q hC hX hl hH hn hdm hs hS)
theorem r_ifnonnull {S : PS} {cc : ByteArray} {pc : Nat} {lv : List (Nat × Value)} {st : List Value} {w : PW} {n ce sl : Nat} {a : Nat} {off : Int} (hb : S.1.1 = cc) (tgt : Nat) (hd : decode cc pc = .ok (.ifnonnull off, 3)) (ht : (pc : Int) + off = (tgt : Int)) (kk : Wp S tgt lv st w n ce sl) : Wp S pc lv (.ref a :: st) w n ce sl := by
  intro D p l e s m args below meth c H locs ls Q hC hX hl hH hn hdm hs hS
  subst hb
  exact lv_ifnonnull hC.1 hC.2.1 hd ht (kk D p l e s m args below meth c H locs ls Q hC hX hl hH hn hdm hs hS)
theorem r_ifnull {S : PS} {cc : ByteArray} {pc : Nat} {lv : List (Nat × Value)} {st : List Value} {w : PW} {n ce sl : Nat} {a : Nat} {off : Int} (hb : S.1.1 = cc) (q : Nat) (hd : decode cc pc = .ok (.ifnull off, 3)) (hq : pc + 3 = q) (kk : Wp S q lv st w n ce sl) : Wp S pc lv (.ref a :: st) w n ce sl := by
  intro D p l e s m args below meth c H locs ls Q hC hX hl hH hn hdm hs hS
  subst hb
  subst hq
  exact lv_ifnull hC.1 hC.2.1 hd (kk D p l e s m args below meth c H locs ls Q hC hX hl hH hn hdm hs hS)
theorem r_ifnonnullN {S : PS} {cc : ByteArray} {pc : Nat} {lv : List (Nat × Value)} {st : List Value} {w : PW} {n ce sl : Nat} {off : Int} (hb : S.1.1 = cc) (q : Nat) (hd : decode cc pc = .ok (.ifnonnull off, 3)) (hq : pc + 3 = q) (kk : Wp S q lv st w n ce sl) : Wp S pc lv (.null :: st) w n ce sl := by
  intro D p l e s m args below meth c H locs ls Q hC hX hl hH hn hdm hs hS
  subst hb
  subst hq
  exact lv_ifnonnullN hC.1 hC.2.1 hd (kk D p l e s m args below meth c H locs ls Q hC hX hl hH hn hdm hs hS)
theorem r_ifnullN {S : PS} {cc : ByteArray} {pc : Nat} {lv : List (Nat × Value)} {st : List Value} {w : PW} {n ce sl : Nat} {off : Int} (hb : S.1.1 = cc) (tgt : Nat) (hd : decode cc pc = .ok (.ifnull off, 3)) (ht : (pc : Int) + off = (tgt : Int)) (kk : Wp S tgt lv st w n ce sl) : Wp S pc lv (.null :: st) w n ce sl := by
  intro D p l e s m args below meth c H locs ls Q hC hX hl hH hn hdm hs hS
  subst hb
  exact lv_ifnullN hC.1 hC.2.1 hd ht (kk D p l e s m args below meth c H locs ls Q hC hX hl hH hn hdm hs hS)
