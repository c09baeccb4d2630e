-- ===== the cooked judgement: rows over a world, locals, a stack and a place =====
abbrev iv (z : Int) : Value := .int (Int32.ofInt z)
abbrev jv (z : Int) : Value := .long (Int64.ofInt z)
abbrev aI (cA : Nat → ClassId) (n : Nat) (f : Nat → Int) : va_E := .inl (cA 0, n, .inl (fun j => Int32.ofInt (f j)))
abbrev aJ (cA : Nat → ClassId) (n : Nat) (f : Nat → Int) : va_E := .inl (cA 1, n, .inr (.inl (fun j => Int64.ofInt (f j))))
abbrev aZ (cA : Nat → ClassId) (n : Nat) (f : Nat → Int) : va_E := .inl (cA 2, n, .inl (fun j => Int32.ofInt (f j)))
abbrev aT (cA : Nat → ClassId) (n : Nat) (f : Nat → Option Nat) : va_E := .inl (cA 3, n, .inr (.inr (.inr (.inr f))))
abbrev tysC (cA : Nat → ClassId) : List (ClassId × FieldType) := [(cA 0, .int), (cA 1, .long), (cA 2, .boolean), (cA 3, .object RX5)]
def I32 (z : Int) : Prop := -2147483648 ≤ z ∧ z ≤ 2147483647
def I64 (z : Int) : Prop := -9223372036854775808 ≤ z ∧ z ≤ 9223372036854775807
theorem i32_lt {a b : Int} (ha : I32 a) (hb : I32 b) : Int32.ofInt a < Int32.ofInt b ↔ a < b := by
  rw [Int32.lt_iff_toInt_lt, Int32.toInt_ofInt, Int32.toInt_ofInt, Int.bmod_eq_of_le, Int.bmod_eq_of_le] <;> (obtain ⟨h1, h2⟩ := ha; obtain ⟨h3, h4⟩ := hb; simp [Int32.size] at *; omega)
theorem i32_toInt {a : Int} (ha : I32 a) : (Int32.ofInt a).toInt = a := by
  rw [Int32.toInt_ofInt, Int.bmod_eq_of_le] <;> (obtain ⟨h1, h2⟩ := ha; simp [Int32.size] at *; omega)
theorem i64_toInt {a : Int} (ha : I64 a) : (Int64.ofInt a).toInt = a := by
  rw [Int64.toInt_ofInt, Int.bmod_eq_of_le] <;> (obtain ⟨h1, h2⟩ := ha; simp [Int64.size] at *; omega)
theorem i32_le {a b : Int} (ha : I32 a) (hb : I32 b) : Int32.ofInt a ≤ Int32.ofInt b ↔ a ≤ b := by
  rw [Int32.le_iff_toInt_le, i32_toInt ha, i32_toInt hb]
theorem i32_eq {a b : Int} (ha : I32 a) (hb : I32 b) : Int32.ofInt a = Int32.ofInt b ↔ a = b := by
  rw [← Int32.toInt_inj, i32_toInt ha, i32_toInt hb]
theorem i64_lt {a b : Int} (ha : I64 a) (hb : I64 b) : Int64.ofInt a < Int64.ofInt b ↔ a < b := by
  rw [Int64.lt_iff_toInt_lt, i64_toInt ha, i64_toInt hb]
theorem i64_le {a b : Int} (ha : I64 a) (hb : I64 b) : Int64.ofInt a ≤ Int64.ofInt b ↔ a ≤ b := by
  rw [Int64.le_iff_toInt_le, i64_toInt ha, i64_toInt hb]
theorem i64_eq {a b : Int} (ha : I64 a) (hb : I64 b) : Int64.ofInt a = Int64.ofInt b ↔ a = b := by
  rw [← Int64.toInt_inj, i64_toInt ha, i64_toInt hb]
theorem i32_of (x : Int32) : Int32.ofInt x.toInt = x := by simp
theorem i64_of (x : Int64) : Int64.ofInt x.toInt = x := by simp
theorem i32_rng (x : Int32) : I32 x.toInt := by
  have h1 := Int32.le_toInt x; have h2 := Int32.toInt_lt x
  constructor <;> omega
theorem i32_nat (n : Nat) : Int32.ofInt (n : Int) = nI n := by
  unfold nI
  first | rfl | exact Int32.ofInt_eq_ofNat | (apply Int32.toBitVec_inj.mp; simp) | (rw [← Int32.toInt_inj]; simp)
theorem i32_long {a : Int} (ha : I32 a) : (Int32.ofInt a).toInt64 = Int64.ofInt a := by
  rw [← Int64.toInt_inj, Int32.toInt_toInt64, i32_toInt ha, i64_toInt]
  obtain ⟨h1, h2⟩ := ha; constructor <;> omega
theorem i64_int (a : Int) : (Int64.ofInt a).toInt32 = Int32.ofInt a := by
  rw [← Int32.toInt_inj]; simp
theorem i32_in {k n : Nat} (h : k < n) (hn : n < 2147483648) : vp_in (Int32.ofInt (k : Int)) n := by rw [i32_nat]; exact vp_in_nI h hn
theorem i32_cl {k : Nat} (h : k < 2147483648) : (Int32.ofInt (k : Int)).toNatClampNeg = k := by rw [i32_nat]; exact nI_clamp h
theorem i64_div {a b : Int} (ha : I64 a) (hb : I64 b) (h : I64 (a.tdiv b)) : Int64.ofInt a / Int64.ofInt b = Int64.ofInt (a.tdiv b) := by
  rw [← Int64.toInt_inj, Int64.toInt_div, i64_toInt ha, i64_toInt hb, i64_toInt h]
  obtain ⟨h1, h2⟩ := h
  rw [Int.bmod_eq_of_le] <;> omega
-- what is known of nest links
def nestW : List (String × Nat × MethodName × String) := [(RX6, 9, yX2_init, RX6), (RX6, 18, yX0_init, RX6), (RX6, 25, yX4_init, RX6), (RX6, 32, yX3_init, RX6), (RX6, 39, yX1_init, RX6), (RX1, 35, yX6_commonDivisor, RX6), (RX2, 46, yX6_isWithin, RX6), (RX2, 70, yX6_commonDivisor, RX6), (RX3, 11, yX5_init, RX6), (RX4, 24, yX5_init, RX6)]
def KN (U : State) : Prop := ∀ w ∈ nestW, va_Nw (.methodLinkNest w.1 w.2.1 w.2.2.1 w.2.2.2) U
def KA (D : va_G) (cA : Nat → ClassId) (U : State) : Prop := va_K D vwCl (tysC cA) U ∧ KN U
theorem KA.warm {D : va_G} {cA : Nat → ClassId} {s U : State} (hW : s.WarmedH U.vm) (h : KA D cA s) : KA D cA U := ⟨va_K.moved hW.alike h.1, fun w hw => va_Nw.warmM hW (h.2 w hw)⟩
theorem KA.call {D : va_G} {cA : Nat → ClassId} {U : State} {g : JFrame} {mk : MethodId} {a : Array Value} (h : KA D cA U) : KA D cA (U.calling g mk a) := ⟨va_K.moved (u := U) (U := U.calling g mk a) (Vm.Alike.refl U.vm) h.1, fun w hw => va_Nw.same rfl rfl (h.2 w hw)⟩
/-- the method's fixed facts -/
def Fx (p : Program) (s : State) (m : MethodId) (args : Array Value) (meth : Method) (c : Code) (cc : ByteArray) (nL : Nat) (own : String) (Ts : List Cond) (rt : Option FieldType) (D : va_G) (cA : Nat → ClassId) : Prop :=
  p.tables.exec = Jvm.exec ∧ c.code = cc ∧ c.maxLocals = nL ∧ s.vm.findClass own = some m.cls ∧ (∀ w ∈ Ts, w.before args s = true) ∧ KA D cA s ∧ meth.sig.returnType = rt ∧ meth.locks = false
def GW (p : Program) (l : Launch) (e : Env) (R : Room) (s : State) (m : MethodId) (args : Array Value) (below : List Frame) (meth : Method) (c : Code) (Q : State → Prop) (Iv : va_W → Heap → List Loc → Prop) (nL kc ks : Nat) (ws : va_W) (lv : List (Nat × Value)) (st : List Value) (pc : Nat) : Prop :=
  ∀ (H : Heap) (locs : List Loc) (ls : Array Slot), Iv ws H locs → lv_has ls nL lv → W p l e R s m args below meth c H locs kc ks Q (F0 m pc ls st)
def IM (D : va_G) (s : State) (A : Nat → Prop) : va_W → Heap → List Loc → Prop := fun ws H locs => va_P D vwCl ws H ∧ va_D A ws ∧ va_S A s.heap H locs
def IR (D : va_G) (s : State) : va_W → Heap → List Loc → Prop := fun ws H locs => H = s.heap ∧ locs = [] ∧ va_P D vwCl ws H
theorem IM_P {D : va_G} {s : State} {A : Nat → Prop} : ∀ ws H locs, IM D s A ws H locs → va_P D vwCl ws H := fun _ _ _ h => h.1
theorem IR_P {D : va_G} {s : State} : ∀ ws H locs, IR D s ws H locs → va_P D vwCl ws H := fun _ _ _ h => h.2.2
/-- a method's end, with a world behind it -/
def Qm (D : va_G) (post : Option Value → va_W → Prop) (A : Nat → Prop) : Array Value → State → Outcome → State → Prop := fun _ st oc t =>
  (∃ v w, oc = .returned v ∧ post v w ∧ va_P D vwCl w t.heap ∧ va_D A w) ∧ va_F A st t
def Qr (post : Option Value → Prop) : Array Value → State → Outcome → State → Prop := fun _ st oc t => ∃ v, oc = .returned v ∧ post v ∧ t.heap = st.heap
/-- a contract with a world -/
def CT (l : Launch) (y : MethodName) (wds : List Cond) (rm : Room) (D : va_G) (cA : Nat → ClassId) (av : List Value) (ws : va_W) (post : Option Value → va_W → Prop) (mc ms : Nat) : Prop :=
  ∀ sz : Nat, Met l y wds rm (va_Pc av (fun U => U.heap.size = sz ∧ va_P D vwCl ws U.heap ∧ KA D cA U ∧ va_D (fun _ => True) ws)) (Qm D post (va_A ws sz)) mc ms (va_A ws sz)
/-- a contract that changes nothing -/
def CR (l : Launch) (y : MethodName) (wds : List Cond) (rm : Room) (D : va_G) (cA : Nat → ClassId) (av : List Value) (ws : va_W) (post : Option Value → Prop) : Prop :=
  Met l y wds rm (va_Pc av (fun U => va_P D vwCl ws U.heap ∧ KA D cA U)) (Qr post) 0 0 (fun _ => False)
theorem Met.ofWF {l : Launch} {y : MethodName} {ws ws' : List Cond} {rm : Room} {Pc : Array Value → State → Prop} {Qc : Array Value → State → Outcome → State → Prop} {mc ms : Nat} {free : Addr → Prop} {cc : ByteArray} {maxL : Nat} {ret : Option FieldType}
    (hy : plainFor y = true) (hw : ws = Cond.code y cc maxL ret :: ws')
    (body : ∀ p e s m args below meth c s₁, BodyLoose p l y (headSpec ws rm) cc maxL ret e s m args below meth c s₁ → c.maxLocals = maxL → Pc args s →
      W p l e (headSpec ws rm).room s m args below meth c s.heap [] 0 0 (MQ below Qc args s mc ms free) (entryFrame m args maxL)) : Met l y ws rm Pc Qc mc ms free := by
  refine MetFree.of_bodySF (code := cc) (maxLocals := maxL) (ret := ret) hy ?_ ?_
  · intro args s m h hn
    obtain ⟨meth, c, h1, h2, h3, h4, h5, h6, -, -⟩ := Cond.code_spec hn (atoms_spec (ws := ws) h _ (by rw [hw]; exact List.mem_cons_self))
    exact ⟨meth, c, h1, h2, h3, h4, h5, h6⟩
  · intro p e s m args below meth c s₁ B hml hP _
    have hh0 : s₁.heap = s.heap := by rw [B.state]; rfl
    obtain ⟨t, a1, o, b1, b2, b3⟩ := body p e s m args below meth c s₁ B hml hP s₁ hh0 (Stand.of_body B)
    exact ⟨t, o, a1, b1, b2, ⟨b3.1, b3.2⟩⟩
theorem CT.mk {l : Launch} {y : MethodName} {wds wds' : List Cond} {rm : Room} {D : va_G} {cA : Nat → ClassId} {av : List Value} {ws : va_W} {post : Option Value → va_W → Prop} {mc ms : Nat} {cc : ByteArray} {maxL : Nat} {ret : Option FieldType}
    (hy : plainFor y = true) (hw : wds = Cond.code y cc maxL ret :: wds') (hlen : (lg_sl av).length ≤ maxL)
    (body : ∀ (p : Program) (e : Env) (s : State) (m : MethodId) (below : List Frame) (meth : Method) (c : Code) (A : Nat → Prop), Fx p s m av.toArray meth c cc maxL y.cls wds ret D cA → meth.name = y.name → (∀ q, s.heap.size ≤ q → A q) →
      GW p l e (headSpec wds rm).room s m av.toArray below meth c (MQ below (Qm D post A) av.toArray s mc ms A) (IM D s A) maxL 0 0 ws (lv_args 0 av) [] 0) : CT l y wds rm D cA av ws post mc ms := by
  intro sz
  refine Met.ofWF (cc := cc) (maxL := maxL) (ret := ret) hy hw ?_
  intro p e s m args below meth c s₁ B hml hv
  obtain ⟨rfl, hsz, hP, hK, hD0⟩ := hv
  subst hsz
  have hown : s.vm.findClass y.cls = some m.cls := findClass_of_methodNamed B.named
  have hn := (name_of_methodNamed B.named B.method).1
  have hg := body p e s m below meth c (va_A ws s.heap.size) ⟨B.exec, B.bytes, hml, hown, atoms_spec (ws := wds) B.pre, hK, B.returns, B.notSynchronized⟩ hn (fun q h => Or.inr h)
  have hl := lv_entry av (n := maxL) hlen
  rw [lg_entry_eq]
  exact hg s.heap [] _ ⟨hP, hD0.self (sz := s.heap.size), va_S.rf⟩ hl
theorem CR.mk {l : Launch} {y : MethodName} {wds wds' : List Cond} {rm : Room} {D : va_G} {cA : Nat → ClassId} {av : List Value} {ws : va_W} {post : Option Value → Prop} {cc : ByteArray} {maxL : Nat} {ret : Option FieldType}
    (hy : plainFor y = true) (hw : wds = Cond.code y cc maxL ret :: wds') (hlen : (lg_sl av).length ≤ maxL)
    (body : ∀ (p : Program) (e : Env) (s : State) (m : MethodId) (below : List Frame) (meth : Method) (c : Code), Fx p s m av.toArray meth c cc maxL y.cls wds ret D cA →
      GW p l e (headSpec wds rm).room s m av.toArray below meth c (MQ below (Qr post) av.toArray s 0 0 (fun _ => False)) (IR D s) maxL 0 0 ws (lv_args 0 av) [] 0) : CR l y wds rm D cA av ws post := by
  refine Met.ofWF (cc := cc) (maxL := maxL) (ret := ret) hy hw ?_
  intro p e s m args below meth c s₁ B hml hv
  obtain ⟨rfl, hP, hK⟩ := hv
  have hown : s.vm.findClass y.cls = some m.cls := findClass_of_methodNamed B.named
  have hg := body p e s m below meth c ⟨B.exec, B.bytes, hml, hown, atoms_spec (ws := wds) B.pre, hK, B.returns, B.notSynchronized⟩
  have hl := lv_entry av (n := maxL) hlen
  rw [lg_entry_eq]
  exact hg s.heap [] _ ⟨rfl, rfl, hP⟩ hl
section
variable {p : Program} {l : Launch} {e : Env} {R : Room} {s : State} {m : MethodId} {args : Array Value} {below : List Frame} {meth : Method} {c : Code} {Q : State → Prop} {Iv : va_W → Heap → List Loc → Prop} {nL kc ks : Nat} {ws : va_W} {lv : List (Nat × Value)} {st : List Value} {pc : Nat} {cc : ByteArray} {own : String} {Ts : List Cond} {rt : Option FieldType} {D : va_G} {cA : Nat → ClassId}
-- constants
theorem g_iconst (F : Fx p s m args meth c cc nL own Ts rt D cA) {n : Int} (hd : decode cc pc = .ok (.iconst n, 1)) (k : GW p l e R s m args below meth c Q Iv nL kc ks ws lv (iv n :: st) (pc + 1)) : GW p l e R s m args below meth c Q Iv nL kc ks ws lv st pc := fun H locs ls hI hl => lv_iconst F.1 F.2.1 hd rfl (k H locs ls hI hl)
theorem g_bipush (F : Fx p s m args meth c cc nL own Ts rt D cA) {n : Int} (hd : decode cc pc = .ok (.bipush n, 2)) (hv : (Int8.ofInt n).toInt32 = Int32.ofInt n) (k : GW p l e R s m args below meth c Q Iv nL kc ks ws lv (iv n :: st) (pc + 2)) : GW p l e R s m args below meth c Q Iv nL kc ks ws lv st pc := fun H locs ls hI hl => lv_bipush F.1 F.2.1 hd hv (k H locs ls hI hl)
theorem g_sipush (F : Fx p s m args meth c cc nL own Ts rt D cA) {n : Int} (hd : decode cc pc = .ok (.sipush n, 3)) (hv : (Int16.ofInt n).toInt32 = Int32.ofInt n) (k : GW p l e R s m args below meth c Q Iv nL kc ks ws lv (iv n :: st) (pc + 3)) : GW p l e R s m args below meth c Q Iv nL kc ks ws lv st pc := fun H locs ls hI hl => lv_sipush F.1 F.2.1 hd hv (k H locs ls hI hl)
theorem g_lconst (F : Fx p s m args meth c cc nL own Ts rt D cA) {n : Fin 2} {z : Int} (hd : decode cc pc = .ok (.lconst n, 1)) (hv : Int64.ofNat (n : Nat) = Int64.ofInt z) (k : GW p l e R s m args below meth c Q Iv nL kc ks ws lv (jv z :: st) (pc + 1)) : GW p l e R s m args below meth c Q Iv nL kc ks ws lv st pc := fun H locs ls hI hl => lv_lconst F.1 F.2.1 hd hv (k H locs ls hI hl)
theorem g_ldc (F : Fx p s m args meth c cc nL own Ts rt D cA) {index : Nat} {v : Int32} (z : Int) (hv : v = Int32.ofInt z) (hc : Cond.constant own index v ∈ Ts) (hd : decode cc pc = .ok (.ldc index, 2)) (k : GW p l e R s m args below meth c Q Iv nL kc ks ws lv (iv z :: st) (pc + 2)) : GW p l e R s m args below meth c Q Iv nL kc ks ws lv st pc := fun H locs ls hI hl => lv_ldc F.1 F.2.1 F.2.2.2.1 (F.2.2.2.2.1 _ hc) hd (by rw [hv]; exact k H locs ls hI hl)
theorem g_ldc2 (F : Fx p s m args meth c cc nL own Ts rt D cA) {index : Nat} {v : Int64} (z : Int) (hv : v = Int64.ofInt z) (hc : Cond.constantLong own index v ∈ Ts) (hd : decode cc pc = .ok (.ldc2_w index, 3)) (k : GW p l e R s m args below meth c Q Iv nL kc ks ws lv (jv z :: st) (pc + 3)) : GW p l e R s m args below meth c Q Iv nL kc ks ws lv st pc := fun H locs ls hI hl => lv_ldc2 F.1 F.2.1 F.2.2.2.1 (F.2.2.2.2.1 _ hc) hd (by rw [hv]; exact k H locs ls hI hl)
-- locals
theorem g_iload_n (F : Fx p s m args meth c cc nL own Ts rt D cA) {k : Fin 4} {i : Nat} {x : Int32} (j : Nat) (hj : lv[j]? = some (i, .int x)) (hi : (k : Nat) = i) (hd : decode cc pc = .ok (.iload_n k, 1)) (kk : GW p l e R s m args below meth c Q Iv nL kc ks ws lv (.int x :: st) (pc + 1)) : GW p l e R s m args below meth c Q Iv nL kc ks ws lv st pc := fun H locs ls hI hl => lv_iload_n F.1 F.2.1 hd hi (lv_at hl j hj) (kk H locs ls hI hl)
theorem g_iload (F : Fx p s m args meth c cc nL own Ts rt D cA) {i : Nat} {x : Int32} (j : Nat) (hj : lv[j]? = some (i, .int x)) (hd : decode cc pc = .ok (.iload i, 2)) (kk : GW p l e R s m args below meth c Q Iv nL kc ks ws lv (.int x :: st) (pc + 2)) : GW p l e R s m args below meth c Q Iv nL kc ks ws lv st pc := fun H locs ls hI hl => lv_iload F.1 F.2.1 hd (lv_at hl j hj) (kk H locs ls hI hl)
theorem g_lload_n (F : Fx p s m args meth c cc nL own Ts rt D cA) {k : Fin 4} {i : Nat} {x : Int64} (j : Nat) (hj : lv[j]? = some (i, .long x)) (hi : (k : Nat) = i) (hd : decode cc pc = .ok (.lload_n k, 1)) (kk : GW p l e R s m args below meth c Q Iv nL kc ks ws lv (.long x :: st) (pc + 1)) : GW p l e R s m args below meth c Q Iv nL kc ks ws lv st pc := fun H locs ls hI hl => lv_lload_n F.1 F.2.1 hd hi (lv_at hl j hj) (kk H locs ls hI hl)
theorem g_lload (F : Fx p s m args meth c cc nL own Ts rt D cA) {i : Nat} {x : Int64} (j : Nat) (hj : lv[j]? = some (i, .long x)) (hd : decode cc pc = .ok (.lload i, 2)) (kk : GW p l e R s m args below meth c Q Iv nL kc ks ws lv (.long x :: st) (pc + 2)) : GW p l e R s m args below meth c Q Iv nL kc ks ws lv st pc := fun H locs ls hI hl => lv_lload F.1 F.2.1 hd (lv_at hl j hj) (kk H locs ls hI hl)
theorem g_aload_n (F : Fx p s m args meth c cc nL own Ts rt D cA) {k : Fin 4} {i : Nat} {x : Nat} (j : Nat) (hj : lv[j]? = some (i, .ref x)) (hi : (k : Nat) = i) (hd : decode cc pc = .ok (.aload_n k, 1)) (kk : GW p l e R s m args below meth c Q Iv nL kc ks ws lv (.ref x :: st) (pc + 1)) : GW p l e R s m args below meth c Q Iv nL kc ks ws lv st pc := fun H locs ls hI hl => lv_aload_n F.1 F.2.1 hd hi (lv_at hl j hj) (kk H locs ls hI hl)
theorem g_aload (F : Fx p s m args meth c cc nL own Ts rt D cA) {i : Nat} {x : Nat} (j : Nat) (hj : lv[j]? = some (i, .ref x)) (hd : decode cc pc = .ok (.aload i, 2)) (kk : GW p l e R s m args below meth c Q Iv nL kc ks ws lv (.ref x :: st) (pc + 2)) : GW p l e R s m args below meth c Q Iv nL kc ks ws lv st pc := fun H locs ls hI hl => lv_aload F.1 F.2.1 hd (lv_at hl j hj) (kk H locs ls hI hl)
theorem g_istore_n (F : Fx p s m args meth c cc nL own Ts rt D cA) {k : Fin 4} {i : Nat} {x : Int32} (lv' : List (Nat × Value)) (hl' : (i, Value.int x) :: lv.filter (fun q => !(q.1 == i) && !(q.1 + 1 == i && q.2.category == 2)) = lv') (hi : (k : Nat) = i) (hn : i < nL) (hd : decode cc pc = .ok (.istore_n k, 1)) (kk : GW p l e R s m args below meth c Q Iv nL kc ks ws lv' st (pc + 1)) : GW p l e R s m args below meth c Q Iv nL kc ks ws lv (.int x :: st) pc := fun H locs ls hI hl => lv_istore_n F.1 F.2.1 hd hi hl hn hl' (fun ls' hl2 => kk H locs ls' hI hl2)
theorem g_istore (F : Fx p s m args meth c cc nL own Ts rt D cA) {i : Nat} {x : Int32} (lv' : List (Nat × Value)) (hl' : (i, Value.int x) :: lv.filter (fun q => !(q.1 == i) && !(q.1 + 1 == i && q.2.category == 2)) = lv') (hn : i < nL) (hd : decode cc pc = .ok (.istore i, 2)) (kk : GW p l e R s m args below meth c Q Iv nL kc ks ws lv' st (pc + 2)) : GW p l e R s m args below meth c Q Iv nL kc ks ws lv (.int x :: st) pc := fun H locs ls hI hl => lv_istore F.1 F.2.1 hd hl hn hl' (fun ls' hl2 => kk H locs ls' hI hl2)
theorem g_lstore_n (F : Fx p s m args meth c cc nL own Ts rt D cA) {k : Fin 4} {i : Nat} {x : Int64} (lv' : List (Nat × Value)) (hl' : (i, Value.long x) :: lv.filter (fun q => !(q.1 == i) && (!(q.1 == i + 1) && !(q.1 + 1 == i && q.2.category == 2))) = lv') (hi : (k : Nat) = i) (hn : i + 1 < nL) (hd : decode cc pc = .ok (.lstore_n k, 1)) (kk : GW p l e R s m args below meth c Q Iv nL kc ks ws lv' st (pc + 1)) : GW p l e R s m args below meth c Q Iv nL kc ks ws lv (.long x :: st) pc := fun H locs ls hI hl => lv_lstore_n F.1 F.2.1 hd hi hl hn hl' (fun ls' hl2 => kk H locs ls' hI hl2)
theorem g_lstore (F : Fx p s m args meth c cc nL own Ts rt D cA) {i : Nat} {x : Int64} (lv' : List (Nat × Value)) (hl' : (i, Value.long x) :: lv.filter (fun q => !(q.1 == i) && (!(q.1 == i + 1) && !(q.1 + 1 == i && q.2.category == 2))) = lv') (hn : i + 1 < nL) (hd : decode cc pc = .ok (.lstore i, 2)) (kk : GW p l e R s m args below meth c Q Iv nL kc ks ws lv' st (pc + 2)) : GW p l e R s m args below meth c Q Iv nL kc ks ws lv (.long x :: st) pc := fun H locs ls hI hl => lv_lstore F.1 F.2.1 hd hl hn hl' (fun ls' hl2 => kk H locs ls' hI hl2)
theorem g_astore_n (F : Fx p s m args meth c cc nL own Ts rt D cA) {k : Fin 4} {i : Nat} {x : Nat} (lv' : List (Nat × Value)) (hl' : (i, Value.ref x) :: lv.filter (fun q => !(q.1 == i) && !(q.1 + 1 == i && q.2.category == 2)) = lv') (hi : (k : Nat) = i) (hn : i < nL) (hd : decode cc pc = .ok (.astore_n k, 1)) (kk : GW p l e R s m args below meth c Q Iv nL kc ks ws lv' st (pc + 1)) : GW p l e R s m args below meth c Q Iv nL kc ks ws lv (.ref x :: st) pc := fun H locs ls hI hl => lv_astore_n F.1 F.2.1 hd hi hl hn hl' (fun ls' hl2 => kk H locs ls' hI hl2)
theorem g_astore (F : Fx p s m args meth c cc nL own Ts rt D cA) {i : Nat} {x : Nat} (lv' : List (Nat × Value)) (hl' : (i, Value.ref x) :: lv.filter (fun q => !(q.1 == i) && !(q.1 + 1 == i && q.2.category == 2)) = lv') (hn : i < nL) (hd : decode cc pc = .ok (.astore i, 2)) (kk : GW p l e R s m args below meth c Q Iv nL kc ks ws lv' st (pc + 2)) : GW p l e R s m args below meth c Q Iv nL kc ks ws lv (.ref x :: st) pc := fun H locs ls hI hl => lv_astore F.1 F.2.1 hd hl hn hl' (fun ls' hl2 => kk H locs ls' hI hl2)
theorem g_iinc (F : Fx p s m args meth c cc nL own Ts rt D cA) {i : Nat} {n z : Int} (j : Nat) (hj : lv[j]? = some (i, iv z)) (lv' : List (Nat × Value)) (hl' : (i, iv (z + n)) :: lv.filter (fun q => !(q.1 == i) && !(q.1 + 1 == i && q.2.category == 2)) = lv') (hn : i < nL) (hd : decode cc pc = .ok (.iinc i n, 3)) (kk : GW p l e R s m args below meth c Q Iv nL kc ks ws lv' st (pc + 3)) : GW p l e R s m args below meth c Q Iv nL kc ks ws lv st pc := fun H locs ls hI hl => lv_iinc F.1 F.2.1 hd hl hj (Int32.ofInt_add z n).symm hn hl' (fun ls' hl2 => kk H locs ls' hI hl2)
/-- fewer locals, other places -/
theorem g_lsub (lv' : List (Nat × Value)) (ks' : List Nat) (h : lv_pick lv ks' = lv') (kk : GW p l e R s m args below meth c Q Iv nL kc ks ws lv' st pc) : GW p l e R s m args below meth c Q Iv nL kc ks ws lv st pc := fun H locs ls hI hl => kk H locs ls hI (lv_sub hl ks' h)
-- arithmetic
theorem g_iadd (F : Fx p s m args meth c cc nL own Ts rt D cA) {a b : Int} (hd : decode cc pc = .ok (.iadd, 1)) (k : GW p l e R s m args below meth c Q Iv nL kc ks ws lv (iv (a + b) :: st) (pc + 1)) : GW p l e R s m args below meth c Q Iv nL kc ks ws lv (iv b :: iv a :: st) pc := fun H locs ls hI hl => lv_iadd F.1 F.2.1 hd (by rw [← Int32.ofInt_add]; exact k H locs ls hI hl)
theorem g_isub (F : Fx p s m args meth c cc nL own Ts rt D cA) {a b : Int} (hd : decode cc pc = .ok (.isub, 1)) (k : GW p l e R s m args below meth c Q Iv nL kc ks ws lv (iv (a - b) :: st) (pc + 1)) : GW p l e R s m args below meth c Q Iv nL kc ks ws lv (iv b :: iv a :: st) pc := fun H locs ls hI hl => lv_isub F.1 F.2.1 hd (by rw [← Int32.ofInt_sub]; exact k H locs ls hI hl)
theorem g_imul (F : Fx p s m args meth c cc nL own Ts rt D cA) {a b : Int} (hd : decode cc pc = .ok (.imul, 1)) (k : GW p l e R s m args below meth c Q Iv nL kc ks ws lv (iv (a * b) :: st) (pc + 1)) : GW p l e R s m args below meth c Q Iv nL kc ks ws lv (iv b :: iv a :: st) pc := fun H locs ls hI hl => lv_imul F.1 F.2.1 hd (by rw [← Int32.ofInt_mul]; exact k H locs ls hI hl)
theorem g_ineg (F : Fx p s m args meth c cc nL own Ts rt D cA) {a : Int} (hd : decode cc pc = .ok (.ineg, 1)) (k : GW p l e R s m args below meth c Q Iv nL kc ks ws lv (iv (-a) :: st) (pc + 1)) : GW p l e R s m args below meth c Q Iv nL kc ks ws lv (iv a :: st) pc := fun H locs ls hI hl => lv_ineg F.1 F.2.1 hd (by rw [← Int32.ofInt_neg]; exact k H locs ls hI hl)
theorem g_ladd (F : Fx p s m args meth c cc nL own Ts rt D cA) {a b : Int} (hd : decode cc pc = .ok (.ladd, 1)) (k : GW p l e R s m args below meth c Q Iv nL kc ks ws lv (jv (a + b) :: st) (pc + 1)) : GW p l e R s m args below meth c Q Iv nL kc ks ws lv (jv b :: jv a :: st) pc := fun H locs ls hI hl => lv_ladd F.1 F.2.1 hd (by rw [← Int64.ofInt_add]; exact k H locs ls hI hl)
theorem g_lsub2 (F : Fx p s m args meth c cc nL own Ts rt D cA) {a b : Int} (hd : decode cc pc = .ok (.lsub, 1)) (k : GW p l e R s m args below meth c Q Iv nL kc ks ws lv (jv (a - b) :: st) (pc + 1)) : GW p l e R s m args below meth c Q Iv nL kc ks ws lv (jv b :: jv a :: st) pc := fun H locs ls hI hl => lv_lsub F.1 F.2.1 hd (by rw [← Int64.ofInt_sub]; exact k H locs ls hI hl)
theorem g_lmul (F : Fx p s m args meth c cc nL own Ts rt D cA) {a b : Int} (hd : decode cc pc = .ok (.lmul, 1)) (k : GW p l e R s m args below meth c Q Iv nL kc ks ws lv (jv (a * b) :: st) (pc + 1)) : GW p l e R s m args below meth c Q Iv nL kc ks ws lv (jv b :: jv a :: st) pc := fun H locs ls hI hl => lv_lmul F.1 F.2.1 hd (by rw [← Int64.ofInt_mul]; exact k H locs ls hI hl)
theorem g_lneg (F : Fx p s m args meth c cc nL own Ts rt D cA) {a : Int} (hd : decode cc pc = .ok (.lneg, 1)) (k : GW p l e R s m args below meth c Q Iv nL kc ks ws lv (jv (-a) :: st) (pc + 1)) : GW p l e R s m args below meth c Q Iv nL kc ks ws lv (jv a :: st) pc := fun H locs ls hI hl => lv_lneg F.1 F.2.1 hd (by rw [← Int64.ofInt_neg]; exact k H locs ls hI hl)
theorem g_i2l (F : Fx p s m args meth c cc nL own Ts rt D cA) {a : Int} (ha : I32 a) (hd : decode cc pc = .ok (.i2l, 1)) (k : GW p l e R s m args below meth c Q Iv nL kc ks ws lv (jv a :: st) (pc + 1)) : GW p l e R s m args below meth c Q Iv nL kc ks ws lv (iv a :: st) pc := fun H locs ls hI hl => lv_i2l F.1 F.2.1 hd (i32_long ha) (k H locs ls hI hl)
theorem g_l2i (F : Fx p s m args meth c cc nL own Ts rt D cA) {a : Int} (hd : decode cc pc = .ok (.l2i, 1)) (k : GW p l e R s m args below meth c Q Iv nL kc ks ws lv (iv a :: st) (pc + 1)) : GW p l e R s m args below meth c Q Iv nL kc ks ws lv (jv a :: st) pc := fun H locs ls hI hl => lv_l2i F.1 F.2.1 hd (i64_int a) (k H locs ls hI hl)
theorem g_ldiv (F : Fx p s m args meth c cc nL own Ts rt D cA) {a b : Int} (ha : I64 a) (hb : I64 b) (h0 : b ≠ 0) (h : I64 (a.tdiv b)) (hd : decode cc pc = .ok (.ldiv, 1)) (k : GW p l e R s m args below meth c Q Iv nL kc ks ws lv (jv (a.tdiv b) :: st) (pc + 1)) : GW p l e R s m args below meth c Q Iv nL kc ks ws lv (jv b :: jv a :: st) pc := fun H locs ls hI hl => lv_ldiv F.1 F.2.1 hd (fun q => h0 ((i64_eq hb ⟨by decide, by decide⟩).mp q)) (by rw [i64_div ha hb h]; exact k H locs ls hI hl)
-- the stack
theorem g_dup (F : Fx p s m args meth c cc nL own Ts rt D cA) {v : Value} (hv : v.category = 1) (hd : decode cc pc = .ok (.dup, 1)) (k : GW p l e R s m args below meth c Q Iv nL kc ks ws lv (v :: v :: st) (pc + 1)) : GW p l e R s m args below meth c Q Iv nL kc ks ws lv (v :: st) pc := fun H locs ls hI hl => lv_dup F.1 F.2.1 hd hv (k H locs ls hI hl)
theorem g_dup2 (F : Fx p s m args meth c cc nL own Ts rt D cA) {v w : Value} (hv : v.category = 1) (hw : w.category = 1) (hd : decode cc pc = .ok (.dup2, 1)) (k : GW p l e R s m args below meth c Q Iv nL kc ks ws lv (v :: w :: v :: w :: st) (pc + 1)) : GW p l e R s m args below meth c Q Iv nL kc ks ws lv (v :: w :: st) pc := fun H locs ls hI hl => lv_dup2_11 F.1 F.2.1 hd hv hw (k H locs ls hI hl)
theorem g_pop (F : Fx p s m args meth c cc nL own Ts rt D cA) {v : Value} (hv : v.category = 1) (hd : decode cc pc = .ok (.pop, 1)) (k : GW p l e R s m args below meth c Q Iv nL kc ks ws lv st (pc + 1)) : GW p l e R s m args below meth c Q Iv nL kc ks ws lv (v :: st) pc := fun H locs ls hI hl => lv_pop F.1 F.2.1 hd hv (k H locs ls hI hl)
theorem g_goto (F : Fx p s m args meth c cc nL own Ts rt D cA) {off : Int} {tgt : Nat} (hd : decode cc pc = .ok (.goto off, 3)) (ht : (pc : Int) + off = (tgt : Int)) (k : GW p l e R s m args below meth c Q Iv nL kc ks ws lv st tgt) : GW p l e R s m args below meth c Q Iv nL kc ks ws lv st pc := fun H locs ls hI hl => lv_goto F.1 F.2.1 hd ht (k H locs ls hI hl)
end
