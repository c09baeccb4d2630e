section
variable {p : Program} {l : Launch} {e : Env} {R : Room} {s : State} {m : MethodId} {args : Array Value} {below : List Frame} {meth : Method} {c : Code} {Q : State → Prop} {Iv : va_W → Heap → List Loc → Prop} {nL kc ks : Nat} {ws : va_W} {lv : List (Nat × Value)} {st : List Value} {pc : Nat} {cc : ByteArray} {own : String} {Ts : List Cond} {rt : Option FieldType} {D : va_G} {cA : Nat → ClassId}
theorem g_icmp_eq (F : Fx p s m args meth c cc nL own Ts rt D cA) {a b : Int} {off : Int} {tgt : Nat} (hd : decode cc pc = .ok (.if_icmp .eq off, 3)) (ht : (pc : Int) + off = (tgt : Int)) (ha : I32 a) (hb : I32 b) (kt : a = b → GW p l e R s m args below meth c Q Iv nL kc ks ws lv st tgt) (kf : ¬ a = b → GW p l e R s m args below meth c Q Iv nL kc ks ws lv st (pc + 3)) : GW p l e R s m args below meth c Q Iv nL kc ks ws lv (iv b :: iv a :: st) pc := fun H locs ls hI hl => lv_icmp_eq F.1 F.2.1 hd ht (fun q => kt ((i32_eq ha hb).mp q) H locs ls hI hl) (fun q => kf (fun z => q ((i32_eq ha hb).mpr z)) H locs ls hI hl)
theorem g_if_eq (F : Fx p s m args meth c cc nL own Ts rt D cA) {a : Int} {off : Int} {tgt : Nat} (hd : decode cc pc = .ok (.ifCond .eq off, 3)) (ht : (pc : Int) + off = (tgt : Int)) (ha : I32 a) (kt : a = 0 → GW p l e R s m args below meth c Q Iv nL kc ks ws lv st tgt) (kf : ¬ a = 0 → GW p l e R s m args below meth c Q Iv nL kc ks ws lv st (pc + 3)) : GW p l e R s m args below meth c Q Iv nL kc ks ws lv (iv a :: st) pc := fun H locs ls hI hl => lv_if_eq F.1 F.2.1 hd ht (fun q => kt ((i32_eq ha (show I32 0 from ⟨by decide, by decide⟩)).mp q) H locs ls hI hl) (fun q => kf (fun w => q ((i32_eq ha (show I32 0 from ⟨by decide, by decide⟩)).mpr w)) H locs ls hI hl)
theorem g_lcmp_eq (F : Fx p s m args meth c cc nL own Ts rt D cA) {a b : Int} {off : Int} {tgt : Nat} (hd0 : decode cc pc = .ok (.lcmp, 1)) (hd : decode cc (pc + 1) = .ok (.ifCond .eq off, 3)) (ht : ((pc + 1 : Nat) : Int) + off = (tgt : Int)) (ha : I64 a) (hb : I64 b) (kt : a = b → GW p l e R s m args below meth c Q Iv nL kc ks ws lv st tgt) (kf : ¬ a = b → GW p l e R s m args below meth c Q Iv nL kc ks ws lv st (pc + 4)) : GW p l e R s m args below meth c Q Iv nL kc ks ws lv (jv b :: jv a :: st) pc := fun H locs ls hI hl => W.lcmp F.1 F.2.1 hd0 (lv_if_eq F.1 F.2.1 hd ht (fun q => kt ((i64_eq ha hb).mp ((lg_cmp_eq (Int64.ofInt a) (Int64.ofInt b)).mp q)) H locs ls hI hl) (fun q => kf (fun w => q ((lg_cmp_eq (Int64.ofInt a) (Int64.ofInt b)).mpr ((i64_eq ha hb).mpr w))) H locs ls hI hl))
theorem g_icmp_ne (F : Fx p s m args meth c cc nL own Ts rt D cA) {a b : Int} {off : Int} {tgt : Nat} (hd : decode cc pc = .ok (.if_icmp .ne off, 3)) (ht : (pc : Int) + off = (tgt : Int)) (ha : I32 a) (hb : I32 b) (kt : ¬ a = b → GW p l e R s m args below meth c Q Iv nL kc ks ws lv st tgt) (kf : a = b → GW p l e R s m args below meth c Q Iv nL kc ks ws lv st (pc + 3)) : GW p l e R s m args below meth c Q Iv nL kc ks ws lv (iv b :: iv a :: st) pc := fun H locs ls hI hl => lv_icmp_ne F.1 F.2.1 hd ht (fun q => kt (fun z => q ((i32_eq ha hb).mpr z)) H locs ls hI hl) (fun q => kf ((i32_eq ha hb).mp q) H locs ls hI hl)
theorem g_if_ne (F : Fx p s m args meth c cc nL own Ts rt D cA) {a : Int} {off : Int} {tgt : Nat} (hd : decode cc pc = .ok (.ifCond .ne off, 3)) (ht : (pc : Int) + off = (tgt : Int)) (ha : I32 a) (kt : ¬ a = 0 → GW p l e R s m args below meth c Q Iv nL kc ks ws lv st tgt) (kf : a = 0 → GW p l e R s m args below meth c Q Iv nL kc ks ws lv st (pc + 3)) : GW p l e R s m args below meth c Q Iv nL kc ks ws lv (iv a :: st) pc := fun H locs ls hI hl => lv_if_ne F.1 F.2.1 hd ht (fun q => kt (fun w => q ((i32_eq ha (show I32 0 from ⟨by decide, by decide⟩)).mpr w)) H locs ls hI hl) (fun q => kf ((i32_eq ha (show I32 0 from ⟨by decide, by decide⟩)).mp q) H locs ls hI hl)
theorem g_lcmp_ne (F : Fx p s m args meth c cc nL own Ts rt D cA) {a b : Int} {off : Int} {tgt : Nat} (hd0 : decode cc pc = .ok (.lcmp, 1)) (hd : decode cc (pc + 1) = .ok (.ifCond .ne off, 3)) (ht : ((pc + 1 : Nat) : Int) + off = (tgt : Int)) (ha : I64 a) (hb : I64 b) (kt : ¬ a = b → GW p l e R s m args below meth c Q Iv nL kc ks ws lv st tgt) (kf : a = b → GW p l e R s m args below meth c Q Iv nL kc ks ws lv st (pc + 4)) : GW p l e R s m args below meth c Q Iv nL kc ks ws lv (jv b :: jv a :: st) pc := fun H locs ls hI hl => W.lcmp F.1 F.2.1 hd0 (lv_if_ne F.1 F.2.1 hd ht (fun q => kt (fun w => q ((lg_cmp_eq (Int64.ofInt a) (Int64.ofInt b)).mpr ((i64_eq ha hb).mpr w))) H locs ls hI hl) (fun q => kf ((i64_eq ha hb).mp ((lg_cmp_eq (Int64.ofInt a) (Int64.ofInt b)).mp q)) H locs ls hI hl))
theorem g_icmp_lt (F : Fx p s m args meth c cc nL own Ts rt D cA) {a b : Int} {off : Int} {tgt : Nat} (hd : decode cc pc = .ok (.if_icmp .lt off, 3)) (ht : (pc : Int) + off = (tgt : Int)) (ha : I32 a) (hb : I32 b) (kt : a < b → GW p l e R s m args below meth c Q Iv nL kc ks ws lv st tgt) (kf : ¬ a < b → GW p l e R s m args below meth c Q Iv nL kc ks ws lv st (pc + 3)) : GW p l e R s m args below meth c Q Iv nL kc ks ws lv (iv b :: iv a :: st) pc := fun H locs ls hI hl => lv_icmp_lt F.1 F.2.1 hd ht (fun q => kt ((i32_lt ha hb).mp q) H locs ls hI hl) (fun q => kf (fun z => q ((i32_lt ha hb).mpr z)) H locs ls hI hl)
theorem g_if_lt (F : Fx p s m args meth c cc nL own Ts rt D cA) {a : Int} {off : Int} {tgt : Nat} (hd : decode cc pc = .ok (.ifCond .lt off, 3)) (ht : (pc : Int) + off = (tgt : Int)) (ha : I32 a) (kt : a < 0 → GW p l e R s m args below meth c Q Iv nL kc ks ws lv st tgt) (kf : ¬ a < 0 → GW p l e R s m args below meth c Q Iv nL kc ks ws lv st (pc + 3)) : GW p l e R s m args below meth c Q Iv nL kc ks ws lv (iv a :: st) pc := fun H locs ls hI hl => lv_if_lt F.1 F.2.1 hd ht (fun q => kt ((i32_lt ha (show I32 0 from ⟨by decide, by decide⟩)).mp q) H locs ls hI hl) (fun q => kf (fun w => q ((i32_lt ha (show I32 0 from ⟨by decide, by decide⟩)).mpr w)) H locs ls hI hl)
theorem g_lcmp_lt (F : Fx p s m args meth c cc nL own Ts rt D cA) {a b : Int} {off : Int} {tgt : Nat} (hd0 : decode cc pc = .ok (.lcmp, 1)) (hd : decode cc (pc + 1) = .ok (.ifCond .lt off, 3)) (ht : ((pc + 1 : Nat) : Int) + off = (tgt : Int)) (ha : I64 a) (hb : I64 b) (kt : a < b → GW p l e R s m args below meth c Q Iv nL kc ks ws lv st tgt) (kf : ¬ a < b → GW p l e R s m args below meth c Q Iv nL kc ks ws lv st (pc + 4)) : GW p l e R s m args below meth c Q Iv nL kc ks ws lv (jv b :: jv a :: st) pc := fun H locs ls hI hl => W.lcmp F.1 F.2.1 hd0 (lv_if_lt F.1 F.2.1 hd ht (fun q => kt ((i64_lt ha hb).mp ((lg_cmp_lt (Int64.ofInt a) (Int64.ofInt b)).mp q)) H locs ls hI hl) (fun q => kf (fun w => q ((lg_cmp_lt (Int64.ofInt a) (Int64.ofInt b)).mpr ((i64_lt ha hb).mpr w))) H locs ls hI hl))
theorem g_icmp_ge (F : Fx p s m args meth c cc nL own Ts rt D cA) {a b : Int} {off : Int} {tgt : Nat} (hd : decode cc pc = .ok (.if_icmp .ge off, 3)) (ht : (pc : Int) + off = (tgt : Int)) (ha : I32 a) (hb : I32 b) (kt : b ≤ a → GW p l e R s m args below meth c Q Iv nL kc ks ws lv st tgt) (kf : ¬ b ≤ a → GW p l e R s m args below meth c Q Iv nL kc ks ws lv st (pc + 3)) : GW p l e R s m args below meth c Q Iv nL kc ks ws lv (iv b :: iv a :: st) pc := fun H locs ls hI hl => lv_icmp_ge F.1 F.2.1 hd ht (fun q => kt ((i32_le hb ha).mp q) H locs ls hI hl) (fun q => kf (fun z => q ((i32_le hb ha).mpr z)) H locs ls hI hl)
theorem g_if_ge (F : Fx p s m args meth c cc nL own Ts rt D cA) {a : Int} {off : Int} {tgt : Nat} (hd : decode cc pc = .ok (.ifCond .ge off, 3)) (ht : (pc : Int) + off = (tgt : Int)) (ha : I32 a) (kt : 0 ≤ a → GW p l e R s m args below meth c Q Iv nL kc ks ws lv st tgt) (kf : ¬ 0 ≤ a → GW p l e R s m args below meth c Q Iv nL kc ks ws lv st (pc + 3)) : GW p l e R s m args below meth c Q Iv nL kc ks ws lv (iv a :: st) pc := fun H locs ls hI hl => lv_if_ge F.1 F.2.1 hd ht (fun q => kt ((i32_le (show I32 0 from ⟨by decide, by decide⟩) ha).mp q) H locs ls hI hl) (fun q => kf (fun w => q ((i32_le (show I32 0 from ⟨by decide, by decide⟩) ha).mpr w)) H locs ls hI hl)
theorem g_lcmp_ge (F : Fx p s m args meth c cc nL own Ts rt D cA) {a b : Int} {off : Int} {tgt : Nat} (hd0 : decode cc pc = .ok (.lcmp, 1)) (hd : decode cc (pc + 1) = .ok (.ifCond .ge off, 3)) (ht : ((pc + 1 : Nat) : Int) + off = (tgt : Int)) (ha : I64 a) (hb : I64 b) (kt : b ≤ a → GW p l e R s m args below meth c Q Iv nL kc ks ws lv st tgt) (kf : ¬ b ≤ a → GW p l e R s m args below meth c Q Iv nL kc ks ws lv st (pc + 4)) : GW p l e R s m args below meth c Q Iv nL kc ks ws lv (jv b :: jv a :: st) pc := fun H locs ls hI hl => W.lcmp F.1 F.2.1 hd0 (lv_if_ge F.1 F.2.1 hd ht (fun q => kt ((i64_le hb ha).mp ((lg_cmp_ge (Int64.ofInt a) (Int64.ofInt b)).mp q)) H locs ls hI hl) (fun q => kf (fun w => q ((lg_cmp_ge (Int64.ofInt a) (Int64.ofInt b)).mpr ((i64_le hb ha).mpr w))) H locs ls hI hl))
theorem g_icmp_gt (F : Fx p s m args meth c cc nL own Ts rt D cA) {a b : Int} {off : Int} {tgt : Nat} (hd : decode cc pc = .ok (.if_icmp .gt off, 3)) (ht : (pc : Int) + off = (tgt : Int)) (ha : I32 a) (hb : I32 b) (kt : b < a → GW p l e R s m args below meth c Q Iv nL kc ks ws lv st tgt) (kf : ¬ b < a → GW p l e R s m args below meth c Q Iv nL kc ks ws lv st (pc + 3)) : GW p l e R s m args below meth c Q Iv nL kc ks ws lv (iv b :: iv a :: st) pc := fun H locs ls hI hl => lv_icmp_gt F.1 F.2.1 hd ht (fun q => kt ((i32_lt hb ha).mp q) H locs ls hI hl) (fun q => kf (fun z => q ((i32_lt hb ha).mpr z)) H locs ls hI hl)
theorem g_if_gt (F : Fx p s m args meth c cc nL own Ts rt D cA) {a : Int} {off : Int} {tgt : Nat} (hd : decode cc pc = .ok (.ifCond .gt off, 3)) (ht : (pc : Int) + off = (tgt : Int)) (ha : I32 a) (kt : 0 < a → GW p l e R s m args below meth c Q Iv nL kc ks ws lv st tgt) (kf : ¬ 0 < a → GW p l e R s m args below meth c Q Iv nL kc ks ws lv st (pc + 3)) : GW p l e R s m args below meth c Q Iv nL kc ks ws lv (iv a :: st) pc := fun H locs ls hI hl => lv_if_gt F.1 F.2.1 hd ht (fun q => kt ((i32_lt (show I32 0 from ⟨by decide, by decide⟩) ha).mp q) H locs ls hI hl) (fun q => kf (fun w => q ((i32_lt (show I32 0 from ⟨by decide, by decide⟩) ha).mpr w)) H locs ls hI hl)
theorem g_lcmp_gt (F : Fx p s m args meth c cc nL own Ts rt D cA) {a b : Int} {off : Int} {tgt : Nat} (hd0 : decode cc pc = .ok (.lcmp, 1)) (hd : decode cc (pc + 1) = .ok (.ifCond .gt off, 3)) (ht : ((pc + 1 : Nat) : Int) + off = (tgt : Int)) (ha : I64 a) (hb : I64 b) (kt : b < a → GW p l e R s m args below meth c Q Iv nL kc ks ws lv st tgt) (kf : ¬ b < a → GW p l e R s m args below meth c Q Iv nL kc ks ws lv st (pc + 4)) : GW p l e R s m args below meth c Q Iv nL kc ks ws lv (jv b :: jv a :: st) pc := fun H locs ls hI hl => W.lcmp F.1 F.2.1 hd0 (lv_if_gt F.1 F.2.1 hd ht (fun q => kt ((i64_lt hb ha).mp ((lg_cmp_gt (Int64.ofInt a) (Int64.ofInt b)).mp q)) H locs ls hI hl) (fun q => kf (fun w => q ((lg_cmp_gt (Int64.ofInt a) (Int64.ofInt b)).mpr ((i64_lt hb ha).mpr w))) H locs ls hI hl))
theorem g_icmp_le (F : Fx p s m args meth c cc nL own Ts rt D cA) {a b : Int} {off : Int} {tgt : Nat} (hd : decode cc pc = .ok (.if_icmp .le off, 3)) (ht : (pc : Int) + off = (tgt : Int)) (ha : I32 a) (hb : I32 b) (kt : a ≤ b → GW p l e R s m args below meth c Q Iv nL kc ks ws lv st tgt) (kf : ¬ a ≤ b → GW p l e R s m args below meth c Q Iv nL kc ks ws lv st (pc + 3)) : GW p l e R s m args below meth c Q Iv nL kc ks ws lv (iv b :: iv a :: st) pc := fun H locs ls hI hl => lv_icmp_le F.1 F.2.1 hd ht (fun q => kt ((i32_le ha hb).mp q) H locs ls hI hl) (fun q => kf (fun z => q ((i32_le ha hb).mpr z)) H locs ls hI hl)
theorem g_if_le (F : Fx p s m args meth c cc nL own Ts rt D cA) {a : Int} {off : Int} {tgt : Nat} (hd : decode cc pc = .ok (.ifCond .le off, 3)) (ht : (pc : Int) + off = (tgt : Int)) (ha : I32 a) (kt : a ≤ 0 → GW p l e R s m args below meth c Q Iv nL kc ks ws lv st tgt) (kf : ¬ a ≤ 0 → GW p l e R s m args below meth c Q Iv nL kc ks ws lv st (pc + 3)) : GW p l e R s m args below meth c Q Iv nL kc ks ws lv (iv a :: st) pc := fun H locs ls hI hl => lv_if_le F.1 F.2.1 hd ht (fun q => kt ((i32_le ha (show I32 0 from ⟨by decide, by decide⟩)).mp q) H locs ls hI hl) (fun q => kf (fun w => q ((i32_le ha (show I32 0 from ⟨by decide, by decide⟩)).mpr w)) H locs ls hI hl)
theorem g_lcmp_le (F : Fx p s m args meth c cc nL own Ts rt D cA) {a b : Int} {off : Int} {tgt : Nat} (hd0 : decode cc pc = .ok (.lcmp, 1)) (hd : decode cc (pc + 1) = .ok (.ifCond .le off, 3)) (ht : ((pc + 1 : Nat) : Int) + off = (tgt : Int)) (ha : I64 a) (hb : I64 b) (kt : a ≤ b → GW p l e R s m args below meth c Q Iv nL kc ks ws lv st tgt) (kf : ¬ a ≤ b → GW p l e R s m args below meth c Q Iv nL kc ks ws lv st (pc + 4)) : GW p l e R s m args below meth c Q Iv nL kc ks ws lv (jv b :: jv a :: st) pc := fun H locs ls hI hl => W.lcmp F.1 F.2.1 hd0 (lv_if_le F.1 F.2.1 hd ht (fun q => kt ((i64_le ha hb).mp ((lg_cmp_le (Int64.ofInt a) (Int64.ofInt b)).mp q)) H locs ls hI hl) (fun q => kf (fun w => q ((lg_cmp_le (Int64.ofInt a) (Int64.ofInt b)).mpr ((i64_le ha hb).mpr w))) H locs ls hI hl))
theorem g_ifb_eq (F : Fx p s m args meth c cc nL own Ts rt D cA) {P : Prop} {dP : Decidable P} {off : Int} {tgt : Nat} (hd : decode cc pc = .ok (.ifCond .eq off, 3)) (ht : (pc : Int) + off = (tgt : Int)) (kt : ¬ P → GW p l e R s m args below meth c Q Iv nL kc ks ws lv st tgt) (kf : P → GW p l e R s m args below meth c Q Iv nL kc ks ws lv st (pc + 3)) : GW p l e R s m args below meth c Q Iv nL kc ks ws lv (iv (@ite Int P dP 1 0) :: st) pc := by
  by_cases hP : P
  · rw [if_pos hP]
    exact g_if_eq F hd ht ⟨by decide, by decide⟩ (fun q => absurd q (by decide)) (fun _ => kf hP)
  · rw [if_neg hP]
    exact g_if_eq F hd ht ⟨by decide, by decide⟩ (fun _ => kt hP) (fun q => absurd rfl q)
theorem g_ifb_ne (F : Fx p s m args meth c cc nL own Ts rt D cA) {P : Prop} {dP : Decidable P} {off : Int} {tgt : Nat} (hd : decode cc pc = .ok (.ifCond .ne off, 3)) (ht : (pc : Int) + off = (tgt : Int)) (kt : P → GW p l e R s m args below meth c Q Iv nL kc ks ws lv st tgt) (kf : ¬ P → GW p l e R s m args below meth c Q Iv nL kc ks ws lv st (pc + 3)) : GW p l e R s m args below meth c Q Iv nL kc ks ws lv (iv (@ite Int P dP 1 0) :: st) pc := by
  by_cases hP : P
  · rw [if_pos hP]
    exact g_if_ne F hd ht ⟨by decide, by decide⟩ (fun _ => kt hP) (fun q => absurd q (by decide))
  · rw [if_neg hP]
    exact g_if_ne F hd ht ⟨by decide, by decide⟩ (fun q => absurd rfl q) (fun _ => kf hP)
theorem g_get (F : Fx p s m args meth c cc nL own Ts rt D cA) (hV : ∀ ws H locs, Iv ws H locs → va_P D vwCl ws H) {a : Nat} {C : String} {T : u_T} {N ci index : Nat} (hin : ∀ w ∈ u_ws C T N, w ∈ Ts) (q0 : Nat) {fs : List Value} (he : ws[q0]? = some (a, .inr (ci, fs))) (hc : vwCl[ci]? = some (C, T, N)) (k : Nat) (hk : k < N) (hlink : Cond.fieldLink own index (T k).1 (T k).2.1 (T k).2.2.1 ∈ Ts) {v : Value} (hv : fs[k]? = some v) (hd : decode cc pc = .ok (.getfield index, 3)) (kk : GW p l e R s m args below meth c Q Iv nL kc ks ws lv (v :: st) (pc + 3)) : GW p l e R s m args below meth c Q Iv nL kc ks ws lv (.ref a :: st) pc := fun H locs ls hI hl => va_get F.1 F.2.1 F.2.2.2.2.1 hin F.2.2.2.1 F.2.2.2.2.2.1.1 (hV _ _ _ hI) q0 he hc k hk (F.2.2.2.2.1 _ hlink) (fun _ h => h) hv hd (kk H locs ls hI hl)
theorem g_put (F : Fx p s m args meth c cc nL own Ts rt D cA) {A : Nat → Prop} {a : Nat} {C : String} {T : u_T} {N ci index : Nat} (hin : ∀ w ∈ u_ws C T N, w ∈ Ts) (ty0 : Nat → FieldType) (hty : ∀ k, k < N → parseFieldDescriptor (T k).2.2.1 = some (ty0 k)) (hnm : ∀ a, a < N → ∀ b, b < N → a ≠ b → (T a).2.1 ≠ (T b).2.1) (q0 : Nat) {fs : List Value} (he : ws[q0]? = some (a, .inr (ci, fs))) (hc : vwCl[ci]? = some (C, T, N)) (k : Nat) (hk : k < N) (hlink : Cond.fieldLink own index (T k).1 (T k).2.1 (T k).2.2.1 ∈ Ts) (hfin : (T k).2.2.2 = false) {v : Value} (hn : narrow (ty0 k) v = v) (hfit : fits (ty0 k) v = true) (hlen : k < fs.length) (ws' : va_W) (hw : ws.set q0 (a, .inr (ci, fs.set k v)) = ws') (hd : decode cc pc = .ok (.putfield index, 3)) (kk : GW p l e R s m args below meth c Q (IM D s A) nL kc ks ws' lv st (pc + 3)) : GW p l e R s m args below meth c Q (IM D s A) nL kc ks ws lv (v :: .ref a :: st) pc := fun H locs ls hI hl => va_put F.1 F.2.1 F.2.2.2.2.1 hin ty0 hty hnm F.2.2.2.1 F.2.2.2.2.2.1.1 hI.1 hI.2.1 hI.2.2 q0 he hc k hk (F.2.2.2.2.1 _ hlink) (fun _ h => h) hfin (hty k hk) hn hfit hlen hd (fun H1 l1 h1 h2 h3 => kk H1 l1 ls ⟨hw ▸ h1, hw ▸ h2, h3⟩ hl)
theorem g_putF (F : Fx p s m args meth c cc nL own Ts rt D cA) {A : Nat → Prop} {a : Nat} {C : String} {T : u_T} {N ci index : Nat} (hin : ∀ w ∈ u_ws C T N, w ∈ Ts) (ty0 : Nat → FieldType) (hty : ∀ k, k < N → parseFieldDescriptor (T k).2.2.1 = some (ty0 k)) (hnm : ∀ a, a < N → ∀ b, b < N → a ≠ b → (T a).2.1 ≠ (T b).2.1) (hin0 : meth.name = "<init>") (q0 : Nat) {fs : List Value} (he : ws[q0]? = some (a, .inr (ci, fs))) (hc : vwCl[ci]? = some (C, T, N)) (k : Nat) (hk : k < N) (hlink : Cond.fieldLink own index (T k).1 (T k).2.1 (T k).2.2.1 ∈ Ts) (hfin : (T k).2.2.2 = true) (hown1 : (T k).1 = own) {v : Value} (hn : narrow (ty0 k) v = v) (hfit : fits (ty0 k) v = true) (hlen : k < fs.length) (ws' : va_W) (hw : ws.set q0 (a, .inr (ci, fs.set k v)) = ws') (hd : decode cc pc = .ok (.putfield index, 3)) (kk : GW p l e R s m args below meth c Q (IM D s A) nL kc ks ws' lv st (pc + 3)) : GW p l e R s m args below meth c Q (IM D s A) nL kc ks ws lv (v :: .ref a :: st) pc := fun H locs ls hI hl => va_putF F.1 F.2.1 F.2.2.2.2.1 hin ty0 hty hnm F.2.2.2.1 F.2.2.2.2.2.1.1 hI.1 hI.2.1 hI.2.2 q0 he hc k hk (F.2.2.2.2.1 _ hlink) (fun _ h => h) hfin hin0 hown1 (hty k hk) hn hfit hlen hd (fun H1 l1 h1 h2 h3 => kk H1 l1 ls ⟨hw ▸ h1, hw ▸ h2, h3⟩ hl)
theorem g_iald (F : Fx p s m args meth c cc nL own Ts rt D cA) (hV : ∀ ws H locs, Iv ws H locs → va_P D vwCl ws H) (q0 : Nat) {a n : Nat} {f : Nat → Int} (he : ws[q0]? = some (a, aI cA n f)) (k : Nat) {z : Int} (hz : z = (k : Int)) (hk : k < n) (hn : n < 2147483648) (hd : decode cc pc = .ok (.iaload, 1)) (kk : GW p l e R s m args below meth c Q Iv nL kc ks ws lv (iv (f k) :: st) (pc + 1)) : GW p l e R s m args below meth c Q Iv nL kc ks ws lv (iv z :: .ref a :: st) pc := fun H locs ls hI hl => by
  subst hz
  refine va_iald F.1 F.2.1 F.2.2.2.2.2.1.1 (hV _ _ _ hI) q0 0 he rfl (i32_in hk hn) hd ?_
  rw [i32_cl (by omega)]
  exact kk H locs ls hI hl
theorem g_lald (F : Fx p s m args meth c cc nL own Ts rt D cA) (hV : ∀ ws H locs, Iv ws H locs → va_P D vwCl ws H) (q0 : Nat) {a n : Nat} {f : Nat → Int} (he : ws[q0]? = some (a, aJ cA n f)) (k : Nat) {z : Int} (hz : z = (k : Int)) (hk : k < n) (hn : n < 2147483648) (hd : decode cc pc = .ok (.laload, 1)) (kk : GW p l e R s m args below meth c Q Iv nL kc ks ws lv (jv (f k) :: st) (pc + 1)) : GW p l e R s m args below meth c Q Iv nL kc ks ws lv (iv z :: .ref a :: st) pc := fun H locs ls hI hl => by
  subst hz
  refine va_lald F.1 F.2.1 F.2.2.2.2.2.1.1 (hV _ _ _ hI) q0 1 he rfl (i32_in hk hn) hd ?_
  rw [i32_cl (by omega)]
  exact kk H locs ls hI hl
theorem g_zald (F : Fx p s m args meth c cc nL own Ts rt D cA) (hV : ∀ ws H locs, Iv ws H locs → va_P D vwCl ws H) (q0 : Nat) {a n : Nat} {f : Nat → Int} (he : ws[q0]? = some (a, aZ cA n f)) (k : Nat) {z : Int} (hz : z = (k : Int)) (hk : k < n) (hn : n < 2147483648) (hd : decode cc pc = .ok (.baload, 1)) (kk : GW p l e R s m args below meth c Q Iv nL kc ks ws lv (iv (f k) :: st) (pc + 1)) : GW p l e R s m args below meth c Q Iv nL kc ks ws lv (iv z :: .ref a :: st) pc := fun H locs ls hI hl => by
  subst hz
  refine va_zald F.1 F.2.1 F.2.2.2.2.2.1.1 (hV _ _ _ hI) q0 2 he rfl (i32_in hk hn) hd ?_
  rw [i32_cl (by omega)]
  exact kk H locs ls hI hl
theorem upd_I (f : Nat → Int) (k : Nat) (v : Int) : upd (fun j => Int32.ofInt (f j)) k (Int32.ofInt v) = fun j => Int32.ofInt (va_up f k v j) := by
  funext j; unfold upd va_up; split <;> rfl
theorem upd_J (f : Nat → Int) (k : Nat) (v : Int) : vp_updL (fun j => Int64.ofInt (f j)) k (Int64.ofInt v) = fun j => Int64.ofInt (va_up f k v j) := by
  funext j; unfold vp_updL va_up; split <;> rfl
theorem nar_Z {v : Int} (h : v = 0 ∨ v = 1) : vp_nar .boolean (Int32.ofInt v) = Int32.ofInt v := by
  rcases h with rfl | rfl <;> decide
theorem g_iast (F : Fx p s m args meth c cc nL own Ts rt D cA) {A : Nat → Prop} (q0 : Nat) {a n : Nat} {f : Nat → Int} (he : ws[q0]? = some (a, aI cA n f)) (k : Nat) {z v : Int} (hz : z = (k : Int)) (hk : k < n) (hn : n < 2147483648) (ws' : va_W) (hw : ws.set q0 (a, aI cA n (va_up f k v)) = ws') (hd : decode cc pc = .ok (.iastore, 1)) (kk : GW p l e R s m args below meth c Q (IM D s A) nL kc ks ws' lv st (pc + 1)) : GW p l e R s m args below meth c Q (IM D s A) nL kc ks ws lv (iv v :: iv z :: .ref a :: st) pc := fun H locs ls hI hl => by
  subst hz
  refine va_iast F.1 F.2.1 F.2.2.2.2.2.1.1 hI.1 hI.2.1 hI.2.2 q0 0 he rfl (i32_in hk hn) hd fun H1 l1 h1 h2 h3 => ?_
  rw [i32_cl (by omega), upd_I] at h1 h2
  exact kk H1 l1 ls ⟨hw ▸ h1, hw ▸ h2, h3⟩ hl
theorem g_last (F : Fx p s m args meth c cc nL own Ts rt D cA) {A : Nat → Prop} (q0 : Nat) {a n : Nat} {f : Nat → Int} (he : ws[q0]? = some (a, aJ cA n f)) (k : Nat) {z v : Int} (hz : z = (k : Int)) (hk : k < n) (hn : n < 2147483648) (ws' : va_W) (hw : ws.set q0 (a, aJ cA n (va_up f k v)) = ws') (hd : decode cc pc = .ok (.lastore, 1)) (kk : GW p l e R s m args below meth c Q (IM D s A) nL kc ks ws' lv st (pc + 1)) : GW p l e R s m args below meth c Q (IM D s A) nL kc ks ws lv (jv v :: iv z :: .ref a :: st) pc := fun H locs ls hI hl => by
  subst hz
  refine va_last F.1 F.2.1 F.2.2.2.2.2.1.1 hI.1 hI.2.1 hI.2.2 q0 1 he rfl (i32_in hk hn) hd fun H1 l1 h1 h2 h3 => ?_
  rw [i32_cl (by omega), upd_J] at h1 h2
  exact kk H1 l1 ls ⟨hw ▸ h1, hw ▸ h2, h3⟩ hl
theorem g_zast (F : Fx p s m args meth c cc nL own Ts rt D cA) {A : Nat → Prop} (q0 : Nat) {a n : Nat} {f : Nat → Int} (he : ws[q0]? = some (a, aZ cA n f)) (k : Nat) {z v : Int} (h01 : v = 0 ∨ v = 1) (hz : z = (k : Int)) (hk : k < n) (hn : n < 2147483648) (ws' : va_W) (hw : ws.set q0 (a, aZ cA n (va_up f k v)) = ws') (hd : decode cc pc = .ok (.bastore, 1)) (kk : GW p l e R s m args below meth c Q (IM D s A) nL kc ks ws' lv st (pc + 1)) : GW p l e R s m args below meth c Q (IM D s A) nL kc ks ws lv (iv v :: iv z :: .ref a :: st) pc := fun H locs ls hI hl => by
  subst hz
  refine va_zast F.1 F.2.1 F.2.2.2.2.2.1.1 hI.1 hI.2.1 hI.2.2 q0 2 he rfl (i32_in hk hn) hd fun H1 l1 h1 h2 h3 => ?_
  rw [nar_Z h01] at h1 h2
  rw [i32_cl (by omega), upd_I] at h1 h2
  exact kk H1 l1 ls ⟨hw ▸ h1, hw ▸ h2, h3⟩ hl
theorem g_wsub {A : Nat → Prop} (ws' : va_W) (is : List Nat) (hn : va_nd is = true) (h : is.map (fun i => ws[i]?) = ws'.map some) (kk : GW p l e R s m args below meth c Q (IM D s A) nL kc ks ws' lv st pc) : GW p l e R s m args below meth c Q (IM D s A) nL kc ks ws lv st pc := fun H locs ls hI hl => kk H locs ls ⟨hI.1.sub is (by
  have : is.filterMap (fun i => ws[i]?) = ws' := by
    have h2 := congrArg (fun l => l.filterMap id) h
    simpa [List.filterMap_map, Function.comp] using h2
  exact this), hI.2.1.sub is hn h, hI.2.2⟩ hl
theorem g_eq {ws' : va_W} {lv' : List (Nat × Value)} {st' : List Value} (hw : ws = ws') (hl' : lv = lv') (hs : st = st') (kk : GW p l e R s m args below meth c Q Iv nL kc ks ws' lv' st' pc) : GW p l e R s m args below meth c Q Iv nL kc ks ws lv st pc := by subst hw hl' hs; exact kk
theorem g_zret (F : Fx p s m args meth c cc nL own Ts rt D cA) {A : Nat → Prop} {post : Option Value → va_W → Prop} {mc ms : Nat} {v : Int32} {ty : FieldType} (hr : rt = some ty) (hn : narrow ty (.int v) = .int v) (hc : kc ≤ mc) (hs : ks ≤ ms) (hp : post (some (.int v)) ws) (hd : decode cc pc = .ok (.ireturn, 1)) : GW p l e R s m args below meth c (MQ below (Qm D post A) args s mc ms A) (IM D s A) nL kc ks ws lv [.int v] pc := fun H locs ls hI hl => W.widen hc hs (W.zret F.1 F.2.1 (F.2.2.2.2.2.2.1.trans hr) hn (fun t ht hW => ⟨⟨_, ws, rfl, hp, by rw [ht]; exact hI.1, hI.2.1⟩, hI.2.2.F ht⟩) hI.2.2.2.2 hd F.2.2.2.2.2.2.2)
theorem g_lret (F : Fx p s m args meth c cc nL own Ts rt D cA) {A : Nat → Prop} {post : Option Value → va_W → Prop} {mc ms : Nat} {v : Int64} (hr : rt = some .long) (hc : kc ≤ mc) (hs : ks ≤ ms) (hp : post (some (.long v)) ws) (hd : decode cc pc = .ok (.lreturn, 1)) : GW p l e R s m args below meth c (MQ below (Qm D post A) args s mc ms A) (IM D s A) nL kc ks ws lv [.long v] pc := fun H locs ls hI hl => W.widen hc hs (W.lret F.1 F.2.1 (F.2.2.2.2.2.2.1.trans hr) (fun t ht hW => ⟨⟨_, ws, rfl, hp, by rw [ht]; exact hI.1, hI.2.1⟩, hI.2.2.F ht⟩) hI.2.2.2.2 hd F.2.2.2.2.2.2.2)
theorem g_vret (F : Fx p s m args meth c cc nL own Ts rt D cA) {A : Nat → Prop} {post : Option Value → va_W → Prop} {mc ms : Nat} (hr : rt = none) (hc : kc ≤ mc) (hs : ks ≤ ms) (hp : post none ws) (hd : decode cc pc = .ok (.return_, 1)) : GW p l e R s m args below meth c (MQ below (Qm D post A) args s mc ms A) (IM D s A) nL kc ks ws lv [] pc := fun H locs ls hI hl => W.widen hc hs (W.vret F.1 F.2.1 (F.2.2.2.2.2.2.1.trans hr) (fun t ht hW => ⟨⟨_, ws, rfl, hp, by rw [ht]; exact hI.1, hI.2.1⟩, hI.2.2.F ht⟩) hI.2.2.2.2 hd F.2.2.2.2.2.2.2)
theorem g_zretR (F : Fx p s m args meth c cc nL own Ts rt D cA) {post : Option Value → Prop} {v : Int32} {ty : FieldType} (hr : rt = some ty) (hn : narrow ty (.int v) = .int v) (hp : post (some (.int v))) (hd : decode cc pc = .ok (.ireturn, 1)) : GW p l e R s m args below meth c (MQ below (Qr post) args s 0 0 (fun _ => False)) (IR D s) nL 0 0 ws lv [.int v] pc := fun H locs ls hI hl => W.zret F.1 F.2.1 (F.2.2.2.2.2.2.1.trans hr) hn (fun t ht hW => ⟨_, rfl, hp, by rw [ht, hI.1]⟩) (by rw [hI.2.1]; intro q h; cases h) hd F.2.2.2.2.2.2.2
theorem g_lretR (F : Fx p s m args meth c cc nL own Ts rt D cA) {post : Option Value → Prop} {v : Int64} (hr : rt = some .long) (hp : post (some (.long v))) (hd : decode cc pc = .ok (.lreturn, 1)) : GW p l e R s m args below meth c (MQ below (Qr post) args s 0 0 (fun _ => False)) (IR D s) nL 0 0 ws lv [.long v] pc := fun H locs ls hI hl => W.lret F.1 F.2.1 (F.2.2.2.2.2.2.1.trans hr) (fun t ht hW => ⟨_, rfl, hp, by rw [ht, hI.1]⟩) (by rw [hI.2.1]; intro q h; cases h) hd F.2.2.2.2.2.2.2
theorem nar_b {P : Prop} {dP : Decidable P} : narrow .boolean (iv (@ite Int P dP 1 0)) = iv (@ite Int P dP 1 0) := by
  by_cases h : P
  · rw [if_pos h]; decide
  · rw [if_neg h]; decide
theorem nar_01 {v : Int} (h : v = 0 ∨ v = 1) : narrow .boolean (iv v) = iv v := by rcases h with rfl | rfl <;> decide
theorem g_callV (F : Fx p s m args meth c cc nL own Ts rt D cA) {A : Nat → Prop} {y : MethodName} {wds : List Cond} {rm : Room} {av As rest : List Value} {wc wr : va_W} {post : Option Value → va_W → Prop} {mc ms maxL n index : Nat} {ret : Option FieldType} {bytes : ByteArray} {C : String} {b ci q0 : Nat} {qc : vw_C} {fs : List Value} (hM : CT l y wds rm D cA av wc post mc ms) (cw : CallW R s args own C index y bytes maxL ret wds rm mc ms n) (hcl : vwCl[ci]? = some qc) (hC0 : C = qc.1) (hb : wc[q0]? = some (b, .inr (ci, fs))) (isC isR : List Nat) (hC : isC.map (fun i => ws[i]?) = wc.map some) (hR : isR.map (fun i => ws[i]?) = wr.map some) (hnC : va_nd isC = true) (hnR : va_nd isR = true) (hdis : ∀ i ∈ isR, i ∉ isC) (hav : av = (.ref b :: As)) (hn : As.length = n) (hW : (rest.map fun v => v.category).sum ≤ 8) (hf : kc + mc ≤ R.cells ∧ ks + ms ≤ R.slots) (hA : ∀ q, s.heap.size ≤ q → A q) (hd : decode cc pc = .ok (.invokevirtual index, 3))
    (kk : ∀ v w, post v w → GW p l e R s m args below meth c Q (IM D s A) nL (kc + mc) (ks + ms) (wr ++ w) lv (v.toList ++ rest) (pc + 3)) : GW p l e R s m args below meth c Q (IM D s A) nL kc ks ws lv (As.reverse ++ .ref b :: rest) pc := fun H locs ls hI hl => by
  have hav2 := hav.symm
  subst hav2
  have hPc := hI.1.sub (ws' := wc) isC (by
    have h2 := congrArg (fun l => l.filterMap id) hC
    simpa [List.filterMap_map, Function.comp] using h2)
  have hDc := hI.2.1.sub (ws' := wc) isC hnC hC
  have hFc := va_free (wc := wc) hI.2.1 hI.2.2 hA isC hC
  have hr := va_runV (g := F0 m pc ls (As.reverse ++ .ref b :: rest)) (As := As) (rest := rest) (H := H) (locs := locs) (cells := kc) (slots := ks) (below := below) (meth := meth) (e := e) ⟨F.1, F.2.1, F.2.2.1, F.2.2.2.1, F.2.2.2.2.1⟩ (hM H.size) cw
    ⟨fun a U g mk q => by obtain ⟨q0, q1, qP, qK, qD⟩ := q; exact ⟨q0, q1, qP, qK.call, qD⟩, (by subst hC0; exact va_recv F.2.2.2.2.2.1.1 hPc hcl hb), fun U hU hW => ⟨rfl, by rw [hU], by rw [hU]; exact hPc, F.2.2.2.2.2.1.warm hW, hDc.weaken (fun _ _ _ _ => trivial)⟩⟩
    rfl hn hl.1 (by simp) (lv_room hW) hd hf
  intro T hT X
  obtain ⟨v, st₀, t, T', L, h0, X', hL, e1, e2, ⟨⟨v', w, hv, hp, hPw, hDw⟩, hz, hk⟩, stp⟩ := hr T hT X
  cases hv
  rw [h0] at hz hk
  obtain ⟨hP2, hD2⟩ := va_join (wr := wr) (w1 := w) (H1 := t.heap) hI.1 hI.2.1 isC isR hC hR hnR hdis hk hFc hPw hDw
  obtain ⟨t2, a1, b1⟩ := kk v w hp T'.heap (locs ++ L) ls ⟨by rw [e1]; exact hP2, hD2, ⟨Nat.le_trans hI.2.2.1 (by rw [e1]; exact hz), fun q h1 h2 => by rw [e1, hk q (Nat.lt_of_lt_of_le h1 hI.2.2.1) (fun z => h2 (hFc q z))]; exact hI.2.2.2.1 q h1 h2, fun q hq => by
      rcases List.mem_append.mp hq with h | h
      · exact hI.2.2.2.2 q h
      · exact hFc _ (hL q h)⟩⟩ hl T' rfl X'
  exact ⟨t2, stp t2 a1, b1⟩
theorem g_callS (F : Fx p s m args meth c cc nL own Ts rt D cA) {A : Nat → Prop} {y : MethodName} {wds : List Cond} {rm : Room} {av As rest : List Value} {wc wr : va_W} {post : Option Value → va_W → Prop} {mc ms maxL n index : Nat} {ret : Option FieldType} {bytes : ByteArray} (hM : CT l y wds rm D cA av wc post mc ms) (cw : CallB R s args own index y bytes maxL ret wds rm mc ms n ∧ (Cond.static y).before args s = true) (isC isR : List Nat) (hC : isC.map (fun i => ws[i]?) = wc.map some) (hR : isR.map (fun i => ws[i]?) = wr.map some) (hnC : va_nd isC = true) (hnR : va_nd isR = true) (hdis : ∀ i ∈ isR, i ∉ isC) (hav : av = As) (hn : As.length = n) (hW : (rest.map fun v => v.category).sum ≤ 8) (hf : kc + mc ≤ R.cells ∧ ks + ms ≤ R.slots) (hA : ∀ q, s.heap.size ≤ q → A q) (hd : decode cc pc = .ok (.invokestatic index, 3))
    (kk : ∀ v w, post v w → GW p l e R s m args below meth c Q (IM D s A) nL (kc + mc) (ks + ms) (wr ++ w) lv (v.toList ++ rest) (pc + 3)) : GW p l e R s m args below meth c Q (IM D s A) nL kc ks ws lv (As.reverse ++ rest) pc := fun H locs ls hI hl => by
  have hav2 := hav.symm
  subst hav2
  have hPc := hI.1.sub (ws' := wc) isC (by
    have h2 := congrArg (fun l => l.filterMap id) hC
    simpa [List.filterMap_map, Function.comp] using h2)
  have hDc := hI.2.1.sub (ws' := wc) isC hnC hC
  have hFc := va_free (wc := wc) hI.2.1 hI.2.2 hA isC hC
  have hr := va_runS (g := F0 m pc ls (As.reverse ++ rest)) (As := As) (rest := rest) (H := H) (locs := locs) (cells := kc) (slots := ks) (below := below) (meth := meth) (e := e) ⟨F.1, F.2.1, F.2.2.1, F.2.2.2.1, F.2.2.2.2.1⟩ (hM H.size) cw
    ⟨fun a U g mk q => by obtain ⟨q0, q1, qP, qK, qD⟩ := q; exact ⟨q0, q1, qP, qK.call, qD⟩, fun U hU hW => ⟨rfl, by rw [hU], by rw [hU]; exact hPc, F.2.2.2.2.2.1.warm hW, hDc.weaken (fun _ _ _ _ => trivial)⟩⟩
    rfl hn hl.1 (by simp) (lv_room hW) hd hf
  intro T hT X
  obtain ⟨v, st₀, t, T', L, h0, X', hL, e1, e2, ⟨⟨v', w, hv, hp, hPw, hDw⟩, hz, hk⟩, stp⟩ := hr T hT X
  cases hv
  rw [h0] at hz hk
  obtain ⟨hP2, hD2⟩ := va_join (wr := wr) (w1 := w) (H1 := t.heap) hI.1 hI.2.1 isC isR hC hR hnR hdis hk hFc hPw hDw
  obtain ⟨t2, a1, b1⟩ := kk v w hp T'.heap (locs ++ L) ls ⟨by rw [e1]; exact hP2, hD2, ⟨Nat.le_trans hI.2.2.1 (by rw [e1]; exact hz), fun q h1 h2 => by rw [e1, hk q (Nat.lt_of_lt_of_le h1 hI.2.2.1) (fun z => h2 (hFc q z))]; exact hI.2.2.2.1 q h1 h2, fun q hq => by
      rcases List.mem_append.mp hq with h | h
      · exact hI.2.2.2.2 q h
      · exact hFc _ (hL q h)⟩⟩ hl T' rfl X'
  exact ⟨t2, stp t2 a1, b1⟩
theorem g_callI (F : Fx p s m args meth c cc nL own Ts rt D cA) {A : Nat → Prop} {y : MethodName} {wds : List Cond} {rm : Room} {av As rest : List Value} {wc wr : va_W} {post : Option Value → va_W → Prop} {mc ms maxL n index : Nat} {bytes : ByteArray} {b : Nat} (hM : CT l y wds rm D cA av wc post mc ms) (cw : CallB R s args own index y bytes maxL none wds rm mc ms n ∧ y.name = "<init>" ∧ (Cond.instanceMethod y).before args s = true) (isC isR : List Nat) (hC : isC.map (fun i => ws[i]?) = wc.map some) (hR : isR.map (fun i => ws[i]?) = wr.map some) (hnC : va_nd isC = true) (hnR : va_nd isR = true) (hdis : ∀ i ∈ isR, i ∉ isC) (hav : av = (.ref b :: As)) (hn : As.length = n) (hW : (rest.map fun v => v.category).sum ≤ 8) (hf : kc + mc ≤ R.cells ∧ ks + ms ≤ R.slots) (hA : ∀ q, s.heap.size ≤ q → A q) (hd : decode cc pc = .ok (.invokespecial index, 3))
    (kk : ∀ v w, post v w → GW p l e R s m args below meth c Q (IM D s A) nL (kc + mc) (ks + ms) (wr ++ w) lv (v.toList ++ rest) (pc + 3)) : GW p l e R s m args below meth c Q (IM D s A) nL kc ks ws lv (As.reverse ++ .ref b :: rest) pc := fun H locs ls hI hl => by
  have hav2 := hav.symm
  subst hav2
  have hPc := hI.1.sub (ws' := wc) isC (by
    have h2 := congrArg (fun l => l.filterMap id) hC
    simpa [List.filterMap_map, Function.comp] using h2)
  have hDc := hI.2.1.sub (ws' := wc) isC hnC hC
  have hFc := va_free (wc := wc) hI.2.1 hI.2.2 hA isC hC
  have hr := va_runI (g := F0 m pc ls (As.reverse ++ .ref b :: rest)) (As := As) (rest := rest) (H := H) (locs := locs) (cells := kc) (slots := ks) (below := below) (meth := meth) (e := e) ⟨F.1, F.2.1, F.2.2.1, F.2.2.2.1, F.2.2.2.2.1⟩ (hM H.size) cw
    ⟨fun a U g mk q => by obtain ⟨q0, q1, qP, qK, qD⟩ := q; exact ⟨q0, q1, qP, qK.call, qD⟩, fun U hU hW => ⟨rfl, by rw [hU], by rw [hU]; exact hPc, F.2.2.2.2.2.1.warm hW, hDc.weaken (fun _ _ _ _ => trivial)⟩⟩
    rfl hn hl.1 (by simp) (lv_room hW) hd hf
  intro T hT X
  obtain ⟨v, st₀, t, T', L, h0, X', hL, e1, e2, ⟨⟨v', w, hv, hp, hPw, hDw⟩, hz, hk⟩, stp⟩ := hr T hT X
  cases hv
  rw [h0] at hz hk
  obtain ⟨hP2, hD2⟩ := va_join (wr := wr) (w1 := w) (H1 := t.heap) hI.1 hI.2.1 isC isR hC hR hnR hdis hk hFc hPw hDw
  obtain ⟨t2, a1, b1⟩ := kk v w hp T'.heap (locs ++ L) ls ⟨by rw [e1]; exact hP2, hD2, ⟨Nat.le_trans hI.2.2.1 (by rw [e1]; exact hz), fun q h1 h2 => by rw [e1, hk q (Nat.lt_of_lt_of_le h1 hI.2.2.1) (fun z => h2 (hFc q z))]; exact hI.2.2.2.1 q h1 h2, fun q hq => by
      rcases List.mem_append.mp hq with h | h
      · exact hI.2.2.2.2 q h
      · exact hFc _ (hL q h)⟩⟩ hl T' rfl X'
  exact ⟨t2, stp t2 a1, b1⟩
theorem g_callIN (F : Fx p s m args meth c cc nL own Ts rt D cA) {A : Nat → Prop} {y : MethodName} {wds : List Cond} {rm : Room} {av As rest : List Value} {wc wr : va_W} {post : Option Value → va_W → Prop} {mc ms maxL n index : Nat} {bytes : ByteArray} {b : Nat} {host : String} (hM : CT l y wds rm D cA av wc post mc ms) (cw : va_CN R s args own index y host bytes maxL none wds rm mc ms n ∧ y.name = "<init>" ∧ (Cond.instanceMethod y).before args s = true) (isC isR : List Nat) (hC : isC.map (fun i => ws[i]?) = wc.map some) (hR : isR.map (fun i => ws[i]?) = wr.map some) (hnC : va_nd isC = true) (hnR : va_nd isR = true) (hdis : ∀ i ∈ isR, i ∉ isC) (hav : av = (.ref b :: As)) (hn : As.length = n) (hW : (rest.map fun v => v.category).sum ≤ 8) (hf : kc + mc ≤ R.cells ∧ ks + ms ≤ R.slots) (hA : ∀ q, s.heap.size ≤ q → A q) (hd : decode cc pc = .ok (.invokespecial index, 3))
    (kk : ∀ v w, post v w → GW p l e R s m args below meth c Q (IM D s A) nL (kc + mc) (ks + ms) (wr ++ w) lv (v.toList ++ rest) (pc + 3)) : GW p l e R s m args below meth c Q (IM D s A) nL kc ks ws lv (As.reverse ++ .ref b :: rest) pc := fun H locs ls hI hl => by
  have hav2 := hav.symm
  subst hav2
  have hPc := hI.1.sub (ws' := wc) isC (by
    have h2 := congrArg (fun l => l.filterMap id) hC
    simpa [List.filterMap_map, Function.comp] using h2)
  have hDc := hI.2.1.sub (ws' := wc) isC hnC hC
  have hFc := va_free (wc := wc) hI.2.1 hI.2.2 hA isC hC
  have hr := va_runIN (g := F0 m pc ls (As.reverse ++ .ref b :: rest)) (As := As) (rest := rest) (H := H) (locs := locs) (cells := kc) (slots := ks) (below := below) (meth := meth) (e := e) ⟨F.1, F.2.1, F.2.2.1, F.2.2.2.1, F.2.2.2.2.1⟩ (hM H.size) cw
    ⟨fun a U g mk q => by obtain ⟨q0, q1, qP, qK, qD⟩ := q; exact ⟨q0, q1, qP, qK.call, qD⟩, fun U hU hW => ⟨rfl, by rw [hU], by rw [hU]; exact hPc, F.2.2.2.2.2.1.warm hW, hDc.weaken (fun _ _ _ _ => trivial)⟩⟩
    rfl hn hl.1 (by simp) (lv_room hW) hd hf
  intro T hT X
  obtain ⟨v, st₀, t, T', L, h0, X', hL, e1, e2, ⟨⟨v', w, hv, hp, hPw, hDw⟩, hz, hk⟩, stp⟩ := hr T hT X
  cases hv
  rw [h0] at hz hk
  obtain ⟨hP2, hD2⟩ := va_join (wr := wr) (w1 := w) (H1 := t.heap) hI.1 hI.2.1 isC isR hC hR hnR hdis hk hFc hPw hDw
  obtain ⟨t2, a1, b1⟩ := kk v w hp T'.heap (locs ++ L) ls ⟨by rw [e1]; exact hP2, hD2, ⟨Nat.le_trans hI.2.2.1 (by rw [e1]; exact hz), fun q h1 h2 => by rw [e1, hk q (Nat.lt_of_lt_of_le h1 hI.2.2.1) (fun z => h2 (hFc q z))]; exact hI.2.2.2.1 q h1 h2, fun q hq => by
      rcases List.mem_append.mp hq with h | h
      · exact hI.2.2.2.2 q h
      · exact hFc _ (hL q h)⟩⟩ hl T' rfl X'
  exact ⟨t2, stp t2 a1, b1⟩
theorem g_callRV (F : Fx p s m args meth c cc nL own Ts rt D cA) (hV : ∀ ws H locs, Iv ws H locs → va_P D vwCl ws H) {y : MethodName} {wds : List Cond} {rm : Room} {av As rest : List Value} {wc : va_W} {post : Option Value → Prop} {maxL n index : Nat} {ret : Option FieldType} {bytes : ByteArray} {C : String} {b ci q0 : Nat} {qc : vw_C} {fs : List Value} (hM : CR l y wds rm D cA av wc post) (cw : CallW R s args own C index y bytes maxL ret wds rm 0 0 n) (hcl : vwCl[ci]? = some qc) (hC0 : C = qc.1) (hb : wc[q0]? = some (b, .inr (ci, fs))) (isC : List Nat) (hC : isC.map (fun i => ws[i]?) = wc.map some) (hav : av = (.ref b :: As)) (hn : As.length = n) (hW : (rest.map fun v => v.category).sum ≤ 8) (hf : kc ≤ R.cells ∧ ks ≤ R.slots) (hd : decode cc pc = .ok (.invokevirtual index, 3))
    (kk : ∀ v, post v → GW p l e R s m args below meth c Q Iv nL kc ks ws lv (v.toList ++ rest) (pc + 3)) : GW p l e R s m args below meth c Q Iv nL kc ks ws lv (As.reverse ++ .ref b :: rest) pc := fun H locs ls hI hl => by
  have hav2 := hav.symm
  subst hav2
  have hPc := (hV _ _ _ hI).sub (ws' := wc) isC (by
    have h2 := congrArg (fun l => l.filterMap id) hC
    simpa [List.filterMap_map, Function.comp] using h2)
  have hr := va_runV (g := F0 m pc ls (As.reverse ++ .ref b :: rest)) (As := As) (rest := rest) (H := H) (locs := locs) (cells := kc) (slots := ks) (below := below) (meth := meth) (e := e) ⟨F.1, F.2.1, F.2.2.1, F.2.2.2.1, F.2.2.2.2.1⟩ hM cw
    ⟨fun a U g mk q => by obtain ⟨q0, qP, qK⟩ := q; exact ⟨q0, qP, qK.call⟩, (by subst hC0; exact va_recv F.2.2.2.2.2.1.1 hPc hcl hb), fun U hU hW => ⟨rfl, by rw [hU]; exact hPc, F.2.2.2.2.2.1.warm hW⟩⟩
    rfl hn hl.1 (by simp) (lv_room hW) hd hf
  intro T hT X
  obtain ⟨v, st₀, t, T', L, h0, X', hL, e1, e2, ⟨v', hv, hp, hh⟩, stp⟩ := hr T hT X
  cases hv
  have hH : T'.heap = H := by rw [e1, hh, h0]
  obtain ⟨t2, a1, b1⟩ := kk v hp H locs ls hI hl T' hH (Stand.forget X' (fun q h => (hL q h).elim))
  exact ⟨t2, stp t2 a1, b1⟩
theorem g_callRS (F : Fx p s m args meth c cc nL own Ts rt D cA) (hV : ∀ ws H locs, Iv ws H locs → va_P D vwCl ws H) {y : MethodName} {wds : List Cond} {rm : Room} {av As rest : List Value} {wc : va_W} {post : Option Value → Prop} {maxL n index : Nat} {ret : Option FieldType} {bytes : ByteArray} (hM : CR l y wds rm D cA av wc post) (cw : CallB R s args own index y bytes maxL ret wds rm 0 0 n ∧ (Cond.static y).before args s = true) (isC : List Nat) (hC : isC.map (fun i => ws[i]?) = wc.map some) (hav : av = As) (hn : As.length = n) (hW : (rest.map fun v => v.category).sum ≤ 8) (hf : kc ≤ R.cells ∧ ks ≤ R.slots) (hd : decode cc pc = .ok (.invokestatic index, 3))
    (kk : ∀ v, post v → GW p l e R s m args below meth c Q Iv nL kc ks ws lv (v.toList ++ rest) (pc + 3)) : GW p l e R s m args below meth c Q Iv nL kc ks ws lv (As.reverse ++ rest) pc := fun H locs ls hI hl => by
  have hav2 := hav.symm
  subst hav2
  have hPc := (hV _ _ _ hI).sub (ws' := wc) isC (by
    have h2 := congrArg (fun l => l.filterMap id) hC
    simpa [List.filterMap_map, Function.comp] using h2)
  have hr := va_runS (g := F0 m pc ls (As.reverse ++ rest)) (As := As) (rest := rest) (H := H) (locs := locs) (cells := kc) (slots := ks) (below := below) (meth := meth) (e := e) ⟨F.1, F.2.1, F.2.2.1, F.2.2.2.1, F.2.2.2.2.1⟩ hM cw
    ⟨fun a U g mk q => by obtain ⟨q0, qP, qK⟩ := q; exact ⟨q0, qP, qK.call⟩, fun U hU hW => ⟨rfl, by rw [hU]; exact hPc, F.2.2.2.2.2.1.warm hW⟩⟩
    rfl hn hl.1 (by simp) (lv_room hW) hd hf
  intro T hT X
  obtain ⟨v, st₀, t, T', L, h0, X', hL, e1, e2, ⟨v', hv, hp, hh⟩, stp⟩ := hr T hT X
  cases hv
  have hH : T'.heap = H := by rw [e1, hh, h0]
  obtain ⟨t2, a1, b1⟩ := kk v hp H locs ls hI hl T' hH (Stand.forget X' (fun q h => (hL q h).elim))
  exact ⟨t2, stp t2 a1, b1⟩
theorem g_callRSN (F : Fx p s m args meth c cc nL own Ts rt D cA) (hV : ∀ ws H locs, Iv ws H locs → va_P D vwCl ws H) {y : MethodName} {wds : List Cond} {rm : Room} {av As rest : List Value} {wc : va_W} {post : Option Value → Prop} {maxL n index : Nat} {ret : Option FieldType} {bytes : ByteArray} {host : String} (hM : CR l y wds rm D cA av wc post) (cw : va_CN R s args own index y host bytes maxL ret wds rm 0 0 n ∧ (Cond.static y).before args s = true ∧ True) (isC : List Nat) (hC : isC.map (fun i => ws[i]?) = wc.map some) (hav : av = As) (hn : As.length = n) (hW : (rest.map fun v => v.category).sum ≤ 8) (hf : kc ≤ R.cells ∧ ks ≤ R.slots) (hd : decode cc pc = .ok (.invokestatic index, 3))
    (kk : ∀ v, post v → GW p l e R s m args below meth c Q Iv nL kc ks ws lv (v.toList ++ rest) (pc + 3)) : GW p l e R s m args below meth c Q Iv nL kc ks ws lv (As.reverse ++ rest) pc := fun H locs ls hI hl => by
  have hav2 := hav.symm
  subst hav2
  have hPc := (hV _ _ _ hI).sub (ws' := wc) isC (by
    have h2 := congrArg (fun l => l.filterMap id) hC
    simpa [List.filterMap_map, Function.comp] using h2)
  have hr := va_runSN (g := F0 m pc ls (As.reverse ++ rest)) (As := As) (rest := rest) (H := H) (locs := locs) (cells := kc) (slots := ks) (below := below) (meth := meth) (e := e) ⟨F.1, F.2.1, F.2.2.1, F.2.2.2.1, F.2.2.2.2.1⟩ hM cw
    ⟨fun a U g mk q => by obtain ⟨q0, qP, qK⟩ := q; exact ⟨q0, qP, qK.call⟩, fun U hU hW => ⟨rfl, by rw [hU]; exact hPc, F.2.2.2.2.2.1.warm hW⟩⟩
    rfl hn hl.1 (by simp) (lv_room hW) hd hf
  intro T hT X
  obtain ⟨v, st₀, t, T', L, h0, X', hL, e1, e2, ⟨v', hv, hp, hh⟩, stp⟩ := hr T hT X
  cases hv
  have hH : T'.heap = H := by rw [e1, hh, h0]
  obtain ⟨t2, a1, b1⟩ := kk v hp H locs ls hI hl T' hH (Stand.forget X' (fun q h => (hL q h).elim))
  exact ⟨t2, stp t2 a1, b1⟩
end
