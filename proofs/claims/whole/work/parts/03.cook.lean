section
variable {p : Program} {l : Launch} {e : Env} {R : Room} {s : State} {m : MethodId} {args : Array Value} {below : List Frame} {meth : Method} {c : Code} {Q : State → Prop} {Iv : va_W → Heap → List Loc → Prop} {nL kc ks : Nat} {ws : va_W} {lv : List (Nat × Value)} {st : List Value} {pc : Nat} {cc : ByteArray} {own : String} {Ts : List Cond} {rt : Option FieldType} {D : va_G} {cA : Nat → ClassId}
theorem g_icmp_eq (F : Fx p s m args meth c cc nL own Ts rt D cA) {a b : Int} {off : Int} {tgt : Nat} (hd : decode cc pc = .ok (.if_icmp .eq off, 3)) (ht : (pc : Int) + off = (tgt : Int)) (ha : I32 a) (hb : I32 b) (kt : a = b → GW p l e R s m args below meth c Q Iv nL kc ks ws lv st tgt) (kf : ¬ a = b → GW p l e R s m args below meth c Q Iv nL kc ks ws lv st (pc + 3)) : GW p l e R s m args below meth c Q Iv nL kc ks ws lv (iv b :: iv a :: st) pc := fun H locs ls hI hl => lv_icmp_eq F.1 F.2.1 hd ht (fun q => kt ((i32_eq ha hb).mp q) H locs ls hI hl) (fun q => kf (fun z => q ((i32_eq ha hb).mpr z)) H locs ls hI hl)
theorem g_if_eq (F : Fx p s m args meth c cc nL own Ts rt D cA) {a : Int} {off : Int} {tgt : Nat} (hd : decode cc pc = .ok (.ifCond .eq off, 3)) (ht : (pc : Int) + off = (tgt : Int)) (ha : I32 a) (kt : a = 0 → GW p l e R s m args below meth c Q Iv nL kc ks ws lv st tgt) (kf : ¬ a = 0 → GW p l e R s m args below meth c Q Iv nL kc ks ws lv st (pc + 3)) : GW p l e R s m args below meth c Q Iv nL kc ks ws lv (iv a :: st) pc := fun H locs ls hI hl => lv_if_eq F.1 F.2.1 hd ht (fun q => kt ((i32_eq ha (show I32 0 from ⟨by decide, by decide⟩)).mp q) H locs ls hI hl) (fun q => kf (fun w => q ((i32_eq ha (show I32 0 from ⟨by decide, by decide⟩)).mpr w)) H locs ls hI hl)
theorem g_lcmp_eq (F : Fx p s m args meth c cc nL own Ts rt D cA) {a b : Int} {off : Int} {tgt : Nat} (hd0 : decode cc pc = .ok (.lcmp, 1)) (hd : decode cc (pc + 1) = .ok (.ifCond .eq off, 3)) (ht : ((pc + 1 : Nat) : Int) + off = (tgt : Int)) (ha : I64 a) (hb : I64 b) (kt : a = b → GW p l e R s m args below meth c Q Iv nL kc ks ws lv st tgt) (kf : ¬ a = b → GW p l e R s m args below meth c Q Iv nL kc ks ws lv st (pc + 4)) : GW p l e R s m args below meth c Q Iv nL kc ks ws lv (jv b :: jv a :: st) pc := fun H locs ls hI hl => W.lcmp F.1 F.2.1 hd0 (lv_if_eq F.1 F.2.1 hd ht (fun q => kt ((i64_eq ha hb).mp ((lg_cmp_eq (Int64.ofInt a) (Int64.ofInt b)).mp q)) H locs ls hI hl) (fun q => kf (fun w => q ((lg_cmp_eq (Int64.ofInt a) (Int64.ofInt b)).mpr ((i64_eq ha hb).mpr w))) H locs ls hI hl))
theorem g_icmp_ne (F : Fx p s m args meth c cc nL own Ts rt D cA) {a b : Int} {off : Int} {tgt : Nat} (hd : decode cc pc = .ok (.if_icmp .ne off, 3)) (ht : (pc : Int) + off = (tgt : Int)) (ha : I32 a) (hb : I32 b) (kt : ¬ a = b → GW p l e R s m args below meth c Q Iv nL kc ks ws lv st tgt) (kf : a = b → GW p l e R s m args below meth c Q Iv nL kc ks ws lv st (pc + 3)) : GW p l e R s m args below meth c Q Iv nL kc ks ws lv (iv b :: iv a :: st) pc := fun H locs ls hI hl => lv_icmp_ne F.1 F.2.1 hd ht (fun q => kt (fun z => q ((i32_eq ha hb).mpr z)) H locs ls hI hl) (fun q => kf ((i32_eq ha hb).mp q) H locs ls hI hl)
theorem g_if_ne (F : Fx p s m args meth c cc nL own Ts rt D cA) {a : Int} {off : Int} {tgt : Nat} (hd : decode cc pc = .ok (.ifCond .ne off, 3)) (ht : (pc : Int) + off = (tgt : Int)) (ha : I32 a) (kt : ¬ a = 0 → GW p l e R s m args below meth c Q Iv nL kc ks ws lv st tgt) (kf : a = 0 → GW p l e R s m args below meth c Q Iv nL kc ks ws lv st (pc + 3)) : GW p l e R s m args below meth c Q Iv nL kc ks ws lv (iv a :: st) pc := fun H locs ls hI hl => lv_if_ne F.1 F.2.1 hd ht (fun q => kt (fun w => q ((i32_eq ha (show I32 0 from ⟨by decide, by decide⟩)).mpr w)) H locs ls hI hl) (fun q => kf ((i32_eq ha (show I32 0 from ⟨by decide, by decide⟩)).mp q) H locs ls hI hl)
theorem g_lcmp_ne (F : Fx p s m args meth c cc nL own Ts rt D cA) {a b : Int} {off : Int} {tgt : Nat} (hd0 : decode cc pc = .ok (.lcmp, 1)) (hd : decode cc (pc + 1) = .ok (.ifCond .ne off, 3)) (ht : ((pc + 1 : Nat) : Int) + off = (tgt : Int)) (ha : I64 a) (hb : I64 b) (kt : ¬ a = b → GW p l e R s m args below meth c Q Iv nL kc ks ws lv st tgt) (kf : a = b → GW p l e R s m args below meth c Q Iv nL kc ks ws lv st (pc + 4)) : GW p l e R s m args below meth c Q Iv nL kc ks ws lv (jv b :: jv a :: st) pc := fun H locs ls hI hl => W.lcmp F.1 F.2.1 hd0 (lv_if_ne F.1 F.2.1 hd ht (fun q => kt (fun w => q ((lg_cmp_eq (Int64.ofInt a) (Int64.ofInt b)).mpr ((i64_eq ha hb).mpr w))) H locs ls hI hl) (fun q => kf ((i64_eq ha hb).mp ((lg_cmp_eq (Int64.ofInt a) (Int64.ofInt b)).mp q)) H locs ls hI hl))
theorem g_icmp_lt (F : Fx p s m args meth c cc nL own Ts rt D cA) {a b : Int} {off : Int} {tgt : Nat} (hd : decode cc pc = .ok (.if_icmp .lt off, 3)) (ht : (pc : Int) + off = (tgt : Int)) (ha : I32 a) (hb : I32 b) (kt : a < b → GW p l e R s m args below meth c Q Iv nL kc ks ws lv st tgt) (kf : ¬ a < b → GW p l e R s m args below meth c Q Iv nL kc ks ws lv st (pc + 3)) : GW p l e R s m args below meth c Q Iv nL kc ks ws lv (iv b :: iv a :: st) pc := fun H locs ls hI hl => lv_icmp_lt F.1 F.2.1 hd ht (fun q => kt ((i32_lt ha hb).mp q) H locs ls hI hl) (fun q => kf (fun z => q ((i32_lt ha hb).mpr z)) H locs ls hI hl)
theorem g_if_lt (F : Fx p s m args meth c cc nL own Ts rt D cA) {a : Int} {off : Int} {tgt : Nat} (hd : decode cc pc = .ok (.ifCond .lt off, 3)) (ht : (pc : Int) + off = (tgt : Int)) (ha : I32 a) (kt : a < 0 → GW p l e R s m args below meth c Q Iv nL kc ks ws lv st tgt) (kf : ¬ a < 0 → GW p l e R s m args below meth c Q Iv nL kc ks ws lv st (pc + 3)) : GW p l e R s m args below meth c Q Iv nL kc ks ws lv (iv a :: st) pc := fun H locs ls hI hl => lv_if_lt F.1 F.2.1 hd ht (fun q => kt ((i32_lt ha (show I32 0 from ⟨by decide, by decide⟩)).mp q) H locs ls hI hl) (fun q => kf (fun w => q ((i32_lt ha (show I32 0 from ⟨by decide, by decide⟩)).mpr w)) H locs ls hI hl)
theorem g_lcmp_lt (F : Fx p s m args meth c cc nL own Ts rt D cA) {a b : Int} {off : Int} {tgt : Nat} (hd0 : decode cc pc = .ok (.lcmp, 1)) (hd : decode cc (pc + 1) = .ok (.ifCond .lt off, 3)) (ht : ((pc + 1 : Nat) : Int) + off = (tgt : Int)) (ha : I64 a) (hb : I64 b) (kt : a < b → GW p l e R s m args below meth c Q Iv nL kc ks ws lv st tgt) (kf : ¬ a < b → GW p l e R s m args below meth c Q Iv nL kc ks ws lv st (pc + 4)) : GW p l e R s m args below meth c Q Iv nL kc ks ws lv (jv b :: jv a :: st) pc := fun H locs ls hI hl => W.lcmp F.1 F.2.1 hd0 (lv_if_lt F.1 F.2.1 hd ht (fun q => kt ((i64_lt ha hb).mp ((lg_cmp_lt (Int64.ofInt a) (Int64.ofInt b)).mp q)) H locs ls hI hl) (fun q => kf (fun w => q ((lg_cmp_lt (Int64.ofInt a) (Int64.ofInt b)).mpr ((i64_lt ha hb).mpr w))) H locs ls hI hl))
theorem g_icmp_ge (F : Fx p s m args meth c cc nL own Ts rt D cA) {a b : Int} {off : Int} {tgt : Nat} (hd : decode cc pc = .ok (.if_icmp .ge off, 3)) (ht : (pc : Int) + off = (tgt : Int)) (ha : I32 a) (hb : I32 b) (kt : b ≤ a → GW p l e R s m args below meth c Q Iv nL kc ks ws lv st tgt) (kf : ¬ b ≤ a → GW p l e R s m args below meth c Q Iv nL kc ks ws lv st (pc + 3)) : GW p l e R s m args below meth c Q Iv nL kc ks ws lv (iv b :: iv a :: st) pc := fun H locs ls hI hl => lv_icmp_ge F.1 F.2.1 hd ht (fun q => kt ((i32_le hb ha).mp q) H locs ls hI hl) (fun q => kf (fun z => q ((i32_le hb ha).mpr z)) H locs ls hI hl)
theorem g_if_ge (F : Fx p s m args meth c cc nL own Ts rt D cA) {a : Int} {off : Int} {tgt : Nat} (hd : decode cc pc = .ok (.ifCond .ge off, 3)) (ht : (pc : Int) + off = (tgt : Int)) (ha : I32 a) (kt : 0 ≤ a → GW p l e R s m args below meth c Q Iv nL kc ks ws lv st tgt) (kf : ¬ 0 ≤ a → GW p l e R s m args below meth c Q Iv nL kc ks ws lv st (pc + 3)) : GW p l e R s m args below meth c Q Iv nL kc ks ws lv (iv a :: st) pc := fun H locs ls hI hl => lv_if_ge F.1 F.2.1 hd ht (fun q => kt ((i32_le (show I32 0 from ⟨by decide, by decide⟩) ha).mp q) H locs ls hI hl) (fun q => kf (fun w => q ((i32_le (show I32 0 from ⟨by decide, by decide⟩) ha).mpr w)) H locs ls hI hl)
theorem g_lcmp_ge (F : Fx p s m args meth c cc nL own Ts rt D cA) {a b : Int} {off : Int} {tgt : Nat} (hd0 : decode cc pc = .ok (.lcmp, 1)) (hd : decode cc (pc + 1) = .ok (.ifCond .ge off, 3)) (ht : ((pc + 1 : Nat) : Int) + off = (tgt : Int)) (ha : I64 a) (hb : I64 b) (kt : b ≤ a → GW p l e R s m args below meth c Q Iv nL kc ks ws lv st tgt) (kf : ¬ b ≤ a → GW p l e R s m args below meth c Q Iv nL kc ks ws lv st (pc + 4)) : GW p l e R s m args below meth c Q Iv nL kc ks ws lv (jv b :: jv a :: st) pc := fun H locs ls hI hl => W.lcmp F.1 F.2.1 hd0 (lv_if_ge F.1 F.2.1 hd ht (fun q => kt ((i64_le hb ha).mp ((lg_cmp_ge (Int64.ofInt a) (Int64.ofInt b)).mp q)) H locs ls hI hl) (fun q => kf (fun w => q ((lg_cmp_ge (Int64.ofInt a) (Int64.ofInt b)).mpr ((i64_le hb ha).mpr w))) H locs ls hI hl))
theorem g_icmp_gt (F : Fx p s m args meth c cc nL own Ts rt D cA) {a b : Int} {off : Int} {tgt : Nat} (hd : decode cc pc = .ok (.if_icmp .gt off, 3)) (ht : (pc : Int) + off = (tgt : Int)) (ha : I32 a) (hb : I32 b) (kt : b < a → GW p l e R s m args below meth c Q Iv nL kc ks ws lv st tgt) (kf : ¬ b < a → GW p l e R s m args below meth c Q Iv nL kc ks ws lv st (pc + 3)) : GW p l e R s m args below meth c Q Iv nL kc ks ws lv (iv b :: iv a :: st) pc := fun H locs ls hI hl => lv_icmp_gt F.1 F.2.1 hd ht (fun q => kt ((i32_lt hb ha).mp q) H locs ls hI hl) (fun q => kf (fun z => q ((i32_lt hb ha).mpr z)) H locs ls hI hl)
theorem g_if_gt (F : Fx p s m args meth c cc nL own Ts rt D cA) {a : Int} {off : Int} {tgt : Nat} (hd : decode cc pc = .ok (.ifCond .gt off, 3)) (ht : (pc : Int) + off = (tgt : Int)) (ha : I32 a) (kt : 0 < a → GW p l e R s m args below meth c Q Iv nL kc ks ws lv st tgt) (kf : ¬ 0 < a → GW p l e R s m args below meth c Q Iv nL kc ks ws lv st (pc + 3)) : GW p l e R s m args below meth c Q Iv nL kc ks ws lv (iv a :: st) pc := fun H locs ls hI hl => lv_if_gt F.1 F.2.1 hd ht (fun q => kt ((i32_lt (show I32 0 from ⟨by decide, by decide⟩) ha).mp q) H locs ls hI hl) (fun q => kf (fun w => q ((i32_lt (show I32 0 from ⟨by decide, by decide⟩) ha).mpr w)) H locs ls hI hl)
theorem g_lcmp_gt (F : Fx p s m args meth c cc nL own Ts rt D cA) {a b : Int} {off : Int} {tgt : Nat} (hd0 : decode cc pc = .ok (.lcmp, 1)) (hd : decode cc (pc + 1) = .ok (.ifCond .gt off, 3)) (ht : ((pc + 1 : Nat) : Int) + off = (tgt : Int)) (ha : I64 a) (hb : I64 b) (kt : b < a → GW p l e R s m args below meth c Q Iv nL kc ks ws lv st tgt) (kf : ¬ b < a → GW p l e R s m args below meth c Q Iv nL kc ks ws lv st (pc + 4)) : GW p l e R s m args below meth c Q Iv nL kc ks ws lv (jv b :: jv a :: st) pc := fun H locs ls hI hl => W.lcmp F.1 F.2.1 hd0 (lv_if_gt F.1 F.2.1 hd ht (fun q => kt ((i64_lt hb ha).mp ((lg_cmp_gt (Int64.ofInt a) (Int64.ofInt b)).mp q)) H locs ls hI hl) (fun q => kf (fun w => q ((lg_cmp_gt (Int64.ofInt a) (Int64.ofInt b)).mpr ((i64_lt hb ha).mpr w))) H locs ls hI hl))
theorem g_icmp_le (F : Fx p s m args meth c cc nL own Ts rt D cA) {a b : Int} {off : Int} {tgt : Nat} (hd : decode cc pc = .ok (.if_icmp .le off, 3)) (ht : (pc : Int) + off = (tgt : Int)) (ha : I32 a) (hb : I32 b) (kt : a ≤ b → GW p l e R s m args below meth c Q Iv nL kc ks ws lv st tgt) (kf : ¬ a ≤ b → GW p l e R s m args below meth c Q Iv nL kc ks ws lv st (pc + 3)) : GW p l e R s m args below meth c Q Iv nL kc ks ws lv (iv b :: iv a :: st) pc := fun H locs ls hI hl => lv_icmp_le F.1 F.2.1 hd ht (fun q => kt ((i32_le ha hb).mp q) H locs ls hI hl) (fun q => kf (fun z => q ((i32_le ha hb).mpr z)) H locs ls hI hl)
theorem g_if_le (F : Fx p s m args meth c cc nL own Ts rt D cA) {a : Int} {off : Int} {tgt : Nat} (hd : decode cc pc = .ok (.ifCond .le off, 3)) (ht : (pc : Int) + off = (tgt : Int)) (ha : I32 a) (kt : a ≤ 0 → GW p l e R s m args below meth c Q Iv nL kc ks ws lv st tgt) (kf : ¬ a ≤ 0 → GW p l e R s m args below meth c Q Iv nL kc ks ws lv st (pc + 3)) : GW p l e R s m args below meth c Q Iv nL kc ks ws lv (iv a :: st) pc := fun H locs ls hI hl => lv_if_le F.1 F.2.1 hd ht (fun q => kt ((i32_le ha (show I32 0 from ⟨by decide, by decide⟩)).mp q) H locs ls hI hl) (fun q => kf (fun w => q ((i32_le ha (show I32 0 from ⟨by decide, by decide⟩)).mpr w)) H locs ls hI hl)
theorem g_lcmp_le (F : Fx p s m args meth c cc nL own Ts rt D cA) {a b : Int} {off : Int} {tgt : Nat} (hd0 : decode cc pc = .ok (.lcmp, 1)) (hd : decode cc (pc + 1) = .ok (.ifCond .le off, 3)) (ht : ((pc + 1 : Nat) : Int) + off = (tgt : Int)) (ha : I64 a) (hb : I64 b) (kt : a ≤ b → GW p l e R s m args below meth c Q Iv nL kc ks ws lv st tgt) (kf : ¬ a ≤ b → GW p l e R s m args below meth c Q Iv nL kc ks ws lv st (pc + 4)) : GW p l e R s m args below meth c Q Iv nL kc ks ws lv (jv b :: jv a :: st) pc := fun H locs ls hI hl => W.lcmp F.1 F.2.1 hd0 (lv_if_le F.1 F.2.1 hd ht (fun q => kt ((i64_le ha hb).mp ((lg_cmp_le (Int64.ofInt a) (Int64.ofInt b)).mp q)) H locs ls hI hl) (fun q => kf (fun w => q ((lg_cmp_le (Int64.ofInt a) (Int64.ofInt b)).mpr ((i64_le ha hb).mpr w))) H locs ls hI hl))
theorem g_ifb_eq (F : Fx p s m args meth c cc nL own Ts rt D cA) {P : Prop} {dP : Decidable P} {off : Int} {tgt : Nat} (hd : decode cc pc = .ok (.ifCond .eq off, 3)) (ht : (pc : Int) + off = (tgt : Int)) (kt : ¬ P → GW p l e R s m args below meth c Q Iv nL kc ks ws lv st tgt) (kf : P → GW p l e R s m args below meth c Q Iv nL kc ks ws lv st (pc + 3)) : GW p l e R s m args below meth c Q Iv nL kc ks ws lv (iv (@ite Int P dP 1 0) :: st) pc := by
  by_cases hP : P
  · rw [if_pos hP]
    exact g_if_eq F hd ht ⟨by decide, by decide⟩ (fun q => absurd q (by decide)) (fun _ => kf hP)
  · rw [if_neg hP]
    exact g_if_eq F hd ht ⟨by decide, by decide⟩ (fun _ => kt hP) (fun q => absurd rfl q)
theorem g_ifb_ne (F : Fx p s m args meth c cc nL own Ts rt D cA) {P : Prop} {dP : Decidable P} {off : Int} {tgt : Nat} (hd : decode cc pc = .ok (.ifCond .ne off, 3)) (ht : (pc : Int) + off = (tgt : Int)) (kt : P → GW p l e R s m args below meth c Q Iv nL kc ks ws lv st tgt) (kf : ¬ P → GW p l e R s m args below meth c Q Iv nL kc ks ws lv st (pc + 3)) : GW p l e R s m args below meth c Q Iv nL kc ks ws lv (iv (@ite Int P dP 1 0) :: st) pc := by
  by_cases hP : P
  · rw [if_pos hP]
    exact g_if_ne F hd ht ⟨by decide, by decide⟩ (fun _ => kt hP) (fun q => absurd q (by decide))
  · rw [if_neg hP]
    exact g_if_ne F hd ht ⟨by decide, by decide⟩ (fun q => absurd rfl q) (fun _ => kf hP)
theorem g_get (F : Fx p s m args meth c cc nL own Ts rt D cA) (hV : ∀ ws H locs, Iv ws H locs → va_P D vwCl ws H) {a : Nat} {C : String} {T : u_T} {N ci index : Nat} (hin : ∀ w ∈ u_ws C T N, w ∈ Ts) (q0 : Nat) {fs : List Value} (he : ws[q0]? = some (a, .inr (ci, fs))) (hc : vwCl[ci]? = some (C, T, N)) (k : Nat) (hk : k < N) (hlink : Cond.fieldLink own index (T k).1 (T k).2.1 (T k).2.2.1 ∈ Ts) {v : Value} (hv : fs[k]? = some v) (hd : decode cc pc = .ok (.getfield index, 3)) (kk : GW p l e R s m args below meth c Q Iv nL kc ks ws lv (v :: st) (pc + 3)) : GW p l e R s m args below meth c Q Iv nL kc ks ws lv (.ref a :: st) pc := fun H locs ls hI hl => va_get F.1 F.2.1 F.2.2.2.2.1 hin F.2.2.2.1 F.2.2.2.2.2.1.1 (hV _ _ _ hI) q0 he hc k hk (F.2.2.2.2.1 _ hlink) (fun _ h => h) hv hd (kk H locs ls hI hl)
theorem g_put (F : Fx p s m args meth c cc nL own Ts rt D cA) {A : Nat → Prop} {a : Nat} {C : String} {T : u_T} {N ci index : Nat} (hin : ∀ w ∈ u_ws C T N, w ∈ Ts) (ty0 : Nat → FieldType) (hty : ∀ k, k < N → parseFieldDescriptor (T k).2.2.1 = some (ty0 k)) (hnm : ∀ a, a < N → ∀ b, b < N → a ≠ b → (T a).2.1 ≠ (T b).2.1) (q0 : Nat) {fs : List Value} (he : ws[q0]? = some (a, .inr (ci, fs))) (hc : vwCl[ci]? = some (C, T, N)) (k : Nat) (hk : k < N) (hlink : Cond.fieldLink own index (T k).1 (T k).2.1 (T k).2.2.1 ∈ Ts) (hfin : (T k).2.2.2 = false) {v : Value} (hn : narrow (ty0 k) v = v) (hfit : fits (ty0 k) v = true) (hlen : k < fs.length) (ws' : va_W) (hw : ws.set q0 (a, .inr (ci, fs.set k v)) = ws') (hd : decode cc pc = .ok (.putfield index, 3)) (kk : GW p l e R s m args below meth c Q (IM D s A) nL kc ks ws' lv st (pc + 3)) : GW p l e R s m args below meth c Q (IM D s A) nL kc ks ws lv (v :: .ref a :: st) pc := fun H locs ls hI hl => va_put F.1 F.2.1 F.2.2.2.2.1 hin ty0 hty hnm F.2.2.2.1 F.2.2.2.2.2.1.1 hI.1 hI.2.1 hI.2.2 q0 he hc k hk (F.2.2.2.2.1 _ hlink) (fun _ h => h) hfin (hty k hk) hn hfit hlen hd (fun H1 l1 h1 h2 h3 => kk H1 l1 ls ⟨hw ▸ h1, hw ▸ h2, h3⟩ hl)
theorem g_putF (F : Fx p s m args meth c cc nL own Ts rt D cA) {A : Nat → Prop} {a : Nat} {C : String} {T : u_T} {N ci index : Nat} (hin : ∀ w ∈ u_ws C T N, w ∈ Ts) (ty0 : Nat → FieldType) (hty : ∀ k, k < N → parseFieldDescriptor (T k).2.2.1 = some (ty0 k)) (hnm : ∀ a, a < N → ∀ b, b < N → a ≠ b → (T a).2.1 ≠ (T b).2.1) (hin0 : meth.name = "<init>") (q0 : Nat) {fs : List Value} (he : ws[q0]? = some (a, .inr (ci, fs))) (hc : vwCl[ci]? = some (C, T, N)) (k : Nat) (hk : k < N) (hlink : Cond.fieldLink own index (T k).1 (T k).2.1 (T k).2.2.1 ∈ Ts) (hfin : (T k).2.2.2 = true) (hown1 : (T k).1 = own) {v : Value} (hn : narrow (ty0 k) v = v) (hfit : fits (ty0 k) v = true) (hlen : k < fs.length) (ws' : va_W) (hw : ws.set q0 (a, .inr (ci, fs.set k v)) = ws') (hd : decode cc pc = .ok (.putfield index, 3)) (kk : GW p l e R s m args below meth c Q (IM D s A) nL kc ks ws' lv st (pc + 3)) : GW p l e R s m args below meth c Q (IM D s A) nL kc ks ws lv (v :: .ref a :: st) pc := fun H locs ls hI hl => va_putF F.1 F.2.1 F.2.2.2.2.1 hin ty0 hty hnm F.2.2.2.1 F.2.2.2.2.2.1.1 hI.1 hI.2.1 hI.2.2 q0 he hc k hk (F.2.2.2.2.1 _ hlink) (fun _ h => h) hfin hin0 hown1 (hty k hk) hn hfit hlen hd (fun H1 l1 h1 h2 h3 => kk H1 l1 ls ⟨hw ▸ h1, hw ▸ h2, h3⟩ hl)
theorem g_iald (F : Fx p s m args meth c cc nL own Ts rt D cA) (hV : ∀ ws H locs, Iv ws H locs → va_P D vwCl ws H) (q0 : Nat) {a n : Nat} {f : Nat → Int} (he : ws[q0]? = some (a, aI cA n f)) (k : Nat) {z : Int} (hz : z = (k : Int)) (hk : k < n) (hn : n < 2147483648) (hd : decode cc pc = .ok (.iaload, 1)) (kk : GW p l e R s m args below meth c Q Iv nL kc ks ws lv (iv (f k) :: st) (pc + 1)) : GW p l e R s m args below meth c Q Iv nL kc ks ws lv (iv z :: .ref a :: st) pc := fun H locs ls hI hl => by
  subst hz
  refine va_iald F.1 F.2.1 F.2.2.2.2.2.1.1 (hV _ _ _ hI) q0 0 he rfl (i32_in hk hn) hd ?_
  rw [i32_cl (by omega)]
  exact kk H locs ls hI hl
theorem g_lald (F : Fx p s m args meth c cc nL own Ts rt D cA) (hV : ∀ ws H locs, Iv ws H locs → va_P D vwCl ws H) (q0 : Nat) {a n : Nat} {f : Nat → Int} (he : ws[q0]? = some (a, aJ cA n f)) (k : Nat) {z : Int} (hz : z = (k : Int)) (hk : k < n) (hn : n < 2147483648) (hd : decode cc pc = .ok (.laload, 1)) (kk : GW p l e R s m args below meth c Q Iv nL kc ks ws lv (jv (f k) :: st) (pc + 1)) : GW p l e R s m args below meth c Q Iv nL kc ks ws lv (iv z :: .ref a :: st) pc := fun H locs ls hI hl => by
  subst hz
  refine va_lald F.1 F.2.1 F.2.2.2.2.2.1.1 (hV _ _ _ hI) q0 1 he rfl (i32_in hk hn) hd ?_
  rw [i32_cl (by omega)]
  exact kk H locs ls hI hl
theorem g_zald (F : Fx p s m args meth c cc nL own Ts rt D cA) (hV : ∀ ws H locs, Iv ws H locs → va_P D vwCl ws H) (q0 : Nat) {a n : Nat} {f : Nat → Int} (he : ws[q0]? = some (a, aZ cA n f)) (k : Nat) {z : Int} (hz : z = (k : Int)) (hk : k < n) (hn : n < 2147483648) (hd : decode cc pc = .ok (.baload, 1)) (kk : GW p l e R s m args below meth c Q Iv nL kc ks ws lv (iv (f k) :: st) (pc + 1)) : GW p l e R s m args below meth c Q Iv nL kc ks ws lv (iv z :: .ref a :: st) pc := fun H locs ls hI hl => by
  subst hz
  refine va_zald F.1 F.2.1 F.2.2.2.2.2.1.1 (hV _ _ _ hI) q0 2 he rfl (i32_in hk hn) hd ?_
  rw [i32_cl (by omega)]
  exact kk H locs ls hI hl
theorem upd_I (f : Nat → Int) (k : Nat) (v : Int) : upd (fun j => Int32.ofInt (f j)) k (Int32.ofInt v) = fun j => Int32.ofInt (va_up f k v j) := by
  funext j; unfold upd va_up; split <;> rfl
theorem upd_J (f : Nat → Int) (k : Nat) (v : Int) : vp_updL (fun j => Int64.ofInt (f j)) k (Int64.ofInt v) = fun j => Int64.ofInt (va_up f k v j) := by
  funext j; unfold vp_updL va_up; split <;> rfl
theorem nar_Z {v : Int} (h : v = 0 ∨ v = 1) : vp_nar .boolean (Int32.ofInt v) = Int32.ofInt v := by
  rcases h with rfl | rfl <;> decide
theorem g_iast (F : Fx p s m args meth c cc nL own Ts rt D cA) {A : Nat → Prop} (q0 : Nat) {a n : Nat} {f : Nat → Int} (he : ws[q0]? = some (a, aI cA n f)) (k : Nat) {z v : Int} (hz : z = (k : Int)) (hk : k < n) (hn : n < 2147483648) (ws' : va_W) (hw : ws.set q0 (a, aI cA n (va_up f k v)) = ws') (hd : decode cc pc = .ok (.iastore, 1)) (kk : GW p l e R s m args below meth c Q (IM D s A) nL kc ks ws' lv st (pc + 1)) : GW p l e R s m args below meth c Q (IM D s A) nL kc ks ws lv (iv v :: iv z :: .ref a :: st) pc := fun H locs ls hI hl => by
  subst hz
  refine va_iast F.1 F.2.1 F.2.2.2.2.2.1.1 hI.1 hI.2.1 hI.2.2 q0 0 he rfl (i32_in hk hn) hd fun H1 l1 h1 h2 h3 => ?_
  rw [i32_cl (by omega), upd_I] at h1 h2
  exact kk H1 l1 ls ⟨hw ▸ h1, hw ▸ h2, h3⟩ hl
theorem g_last (F : Fx p s m args meth c cc nL own Ts rt D cA) {A : Nat → Prop} (q0 : Nat) {a n : Nat} {f : Nat → Int} (he : ws[q0]? = some (a, aJ cA n f)) (k : Nat) {z v : Int} (hz : z = (k : Int)) (hk : k < n) (hn : n < 2147483648) (ws' : va_W) (hw : ws.set q0 (a, aJ cA n (va_up f k v)) = ws') (hd : decode cc pc = .ok (.lastore, 1)) (kk : GW p l e R s m args below meth c Q (IM D s A) nL kc ks ws' lv st (pc + 1)) : GW p l e R s m args below meth c Q (IM D s A) nL kc ks ws lv (jv v :: iv z :: .ref a :: st) pc := fun H locs ls hI hl => by
  subst hz
  refine va_last F.1 F.2.1 F.2.2.2.2.2.1.1 hI.1 hI.2.1 hI.2.2 q0 1 he rfl (i32_in hk hn) hd fun H1 l1 h1 h2 h3 => ?_
  rw [i32_cl (by omega), upd_J] at h1 h2
  exact kk H1 l1 ls ⟨hw ▸ h1, hw ▸ h2, h3⟩ hl
theorem g_zast (F : Fx p s m args meth c cc nL own Ts rt D cA) {A : Nat → Prop} (q0 : Nat) {a n : Nat} {f : Nat → Int} (he : ws[q0]? = some (a, aZ cA n f)) (k : Nat) {z v : Int} (h01 : v = 0 ∨ v = 1) (hz : z = (k : Int)) (hk : k < n) (hn : n < 2147483648) (ws' : va_W) (hw : ws.set q0 (a, aZ cA n (va_up f k v)) = ws') (hd : decode cc pc = .ok (.bastore, 1)) (kk : GW p l e R s m args below meth c Q (IM D s A) nL kc ks ws' lv st (pc + 1)) : GW p l e R s m args below meth c Q (IM D s A) nL kc ks ws lv (iv v :: iv z :: .ref a :: st) pc := fun H locs ls hI hl => by
  subst hz
  refine va_zast F.1 F.2.1 F.2.2.2.2.2.1.1 hI.1 hI.2.1 hI.2.2 q0 2 he rfl (i32_in hk hn) hd fun H1 l1 h1 h2 h3 => ?_
  rw [nar_Z h01] at h1 h2
  rw [i32_cl (by omega), upd_I] at h1 h2
  exact kk H1 l1 ls ⟨hw ▸ h1, hw ▸ h2, h3⟩ hl
theorem i32_and (a b : Nat) : Int32.ofInt (a : Int) &&& Int32.ofInt (b : Int) = Int32.ofInt ((a &&& b : Nat) : Int) := by
  rw [i32_nat, i32_nat, i32_nat]; apply Int32.toBitVec_inj.mp; simp [nI, BitVec.ofNat_and]
theorem i32_or (a b : Nat) : Int32.ofInt (a : Int) ||| Int32.ofInt (b : Int) = Int32.ofInt ((a ||| b : Nat) : Int) := by
  rw [i32_nat, i32_nat, i32_nat]; apply Int32.toBitVec_inj.mp; simp [nI, BitVec.ofNat_or]
theorem i32_xor (a b : Nat) : Int32.ofInt (a : Int) ^^^ Int32.ofInt (b : Int) = Int32.ofInt ((a ^^^ b : Nat) : Int) := by
  rw [i32_nat, i32_nat, i32_nat]; apply Int32.toBitVec_inj.mp; simp [nI, BitVec.ofNat_xor]
theorem i32_cnt : ∀ b, b < 31 → ((nI b &&& 31).toBitVec.smod 32).toNat = b := by decide
theorem i32_shl {a b : Nat} (hb : b < 31) (h : a <<< b < 2147483648) : Int32.ofInt (a : Int) <<< (Int32.ofInt (b : Int) &&& 31) = Int32.ofInt ((a <<< b : Nat) : Int) := by
  rw [i32_nat, i32_nat, i32_nat, Nat.shiftLeft_eq]
  rw [Nat.shiftLeft_eq] at h
  exact pk_shlN _ b (i32_cnt b hb) (by omega)
theorem i32_shr {a b : Nat} (hb : b < 31) (h : a < 2147483648) : Int32.ofInt (a : Int) >>> (Int32.ofInt (b : Int) &&& 31) = Int32.ofInt ((a >>> b : Nat) : Int) := by
  rw [i32_nat, i32_nat, i32_nat, Nat.shiftRight_eq_div_pow]
  exact pk_shrN (by omega) _ b (i32_cnt b hb)
theorem g_iand (F : Fx p s m args meth c cc nL own Ts rt D cA) {a b : Nat} {x y : Int} (hx : x = (a : Int)) (hy : y = (b : Int)) (hd : decode cc pc = .ok (.iand, 1)) (k : GW p l e R s m args below meth c Q Iv nL kc ks ws lv (iv ((a &&& b : Nat) : Int) :: st) (pc + 1)) : GW p l e R s m args below meth c Q Iv nL kc ks ws lv (iv y :: iv x :: st) pc := fun H locs ls hI hl => lv_iand F.1 F.2.1 hd (by subst hx; subst hy; rw [i32_and]; exact k H locs ls hI hl)
theorem g_ior (F : Fx p s m args meth c cc nL own Ts rt D cA) {a b : Nat} {x y : Int} (hx : x = (a : Int)) (hy : y = (b : Int)) (hd : decode cc pc = .ok (.ior, 1)) (k : GW p l e R s m args below meth c Q Iv nL kc ks ws lv (iv ((a ||| b : Nat) : Int) :: st) (pc + 1)) : GW p l e R s m args below meth c Q Iv nL kc ks ws lv (iv y :: iv x :: st) pc := fun H locs ls hI hl => lv_ior F.1 F.2.1 hd (by subst hx; subst hy; rw [i32_or]; exact k H locs ls hI hl)
theorem g_ishl (F : Fx p s m args meth c cc nL own Ts rt D cA) {a b : Nat} {x y : Int} (hx : x = (a : Int)) (hy : y = (b : Int)) (hb : b < 31) (hs : a <<< b < 2147483648) (hd : decode cc pc = .ok (.ishl, 1)) (k : GW p l e R s m args below meth c Q Iv nL kc ks ws lv (iv ((a <<< b : Nat) : Int) :: st) (pc + 1)) : GW p l e R s m args below meth c Q Iv nL kc ks ws lv (iv y :: iv x :: st) pc := fun H locs ls hI hl => lv_ishl F.1 F.2.1 hd (by subst hx; subst hy; rw [i32_shl hb hs]; exact k H locs ls hI hl)
theorem g_ishr (F : Fx p s m args meth c cc nL own Ts rt D cA) {a b : Nat} {x y : Int} (hx : x = (a : Int)) (hy : y = (b : Int)) (hb : b < 31) (hs : a < 2147483648) (hd : decode cc pc = .ok (.ishr, 1)) (k : GW p l e R s m args below meth c Q Iv nL kc ks ws lv (iv ((a >>> b : Nat) : Int) :: st) (pc + 1)) : GW p l e R s m args below meth c Q Iv nL kc ks ws lv (iv y :: iv x :: st) pc := fun H locs ls hI hl => lv_ishr F.1 F.2.1 hd (by subst hx; subst hy; rw [i32_shr hb hs]; exact k H locs ls hI hl)
theorem i32_andnot (a b : Nat) (ha : a < 2147483648) (hb : b < 2147483648) : Int32.ofInt (a : Int) &&& (Int32.ofInt (b : Int) ^^^ Int32.ofInt (-1)) = Int32.ofInt ((a ^^^ (a &&& b) : Nat) : Int) := by
  rw [← i32_xor, ← i32_and]
  generalize Int32.ofInt (a : Int) = x
  generalize Int32.ofInt (b : Int) = y
  apply Int32.toBitVec_inj.mp
  have h1 : (Int32.ofInt (-1)).toBitVec = BitVec.allOnes 32 := by decide
  simp only [Int32.toBitVec_and, Int32.toBitVec_xor, h1]
  ext i hi
  simp only [BitVec.getElem_and, BitVec.getElem_xor, BitVec.getElem_allOnes]
  cases x.toBitVec[i] <;> cases y.toBitVec[i] <;> rfl
theorem g_andnot (F : Fx p s m args meth c cc nL own Ts rt D cA) {a b : Nat} {x y : Int} (hx : x = (a : Int)) (hy : y = (b : Int)) (ha : a < 2147483648) (hb : b < 2147483648) (hd : decode cc pc = .ok (.ixor, 1)) (hd2 : decode cc (pc + 1) = .ok (.iand, 1)) (k : GW p l e R s m args below meth c Q Iv nL kc ks ws lv (iv ((a ^^^ (a &&& b) : Nat) : Int) :: st) (pc + 2)) : GW p l e R s m args below meth c Q Iv nL kc ks ws lv (iv (-1) :: iv y :: iv x :: st) pc := fun H locs ls hI hl => lv_ixor F.1 F.2.1 hd (lv_iand F.1 F.2.1 hd2 (by subst hx; subst hy; rw [i32_andnot a b ha hb]; exact k H locs ls hI hl))
theorem i32_xor_ge {a b : Int} (ha : I32 a) (hb : I32 b) (h0 : 0 ≤ b) : 0 ≤ (Int32.ofInt a ^^^ Int32.ofInt b) ↔ 0 ≤ a := by
  have e1 : ∀ x : Int32, 0 ≤ x ↔ x.toBitVec.msb = false := by
    intro x
    rw [Int32.le_iff_toInt_le, ← Int32.toInt_toBitVec]
    rw [BitVec.msb_eq_toInt]
    simp
  have e2 : ∀ z : Int, I32 z → ((Int32.ofInt z).toBitVec.msb = false ↔ 0 ≤ z) := by
    intro z hz
    rw [← e1, Int32.le_iff_toInt_le, i32_toInt hz]
    simp
  rw [e1, Int32.toBitVec_xor, BitVec.msb_xor, (e2 b hb).mpr h0, Bool.xor_false, e2 a ha]
theorem i64_xor_ge {a b : Int} (ha : I64 a) (hb : I64 b) (h0 : 0 ≤ b) : 0 ≤ (Int64.ofInt a ^^^ Int64.ofInt b) ↔ 0 ≤ a := by
  have e1 : ∀ x : Int64, 0 ≤ x ↔ x.toBitVec.msb = false := by
    intro x
    rw [Int64.le_iff_toInt_le, ← Int64.toInt_toBitVec]
    rw [BitVec.msb_eq_toInt]
    simp
  have e2 : ∀ z : Int, I64 z → ((Int64.ofInt z).toBitVec.msb = false ↔ 0 ≤ z) := by
    intro z hz
    rw [← e1, Int64.le_iff_toInt_le, i64_toInt hz]
    simp
  rw [e1, Int64.toBitVec_xor, BitVec.msb_xor, (e2 b hb).mpr h0, Bool.xor_false, e2 a ha]
theorem g_ixor_ge (F : Fx p s m args meth c cc nL own Ts rt D cA) {a b : Int} {off : Int} {tgt : Nat} (hd0 : decode cc pc = .ok (.ixor, 1)) (hd : decode cc (pc + 1) = .ok (.ifCond .ge off, 3)) (ht : ((pc + 1 : Nat) : Int) + off = (tgt : Int)) (ha : I32 a) (hb : I32 b) (h0 : 0 ≤ b) (kt : 0 ≤ a → GW p l e R s m args below meth c Q Iv nL kc ks ws lv st tgt) (kf : ¬ 0 ≤ a → GW p l e R s m args below meth c Q Iv nL kc ks ws lv st (pc + 4)) : GW p l e R s m args below meth c Q Iv nL kc ks ws lv (iv b :: iv a :: st) pc := fun H locs ls hI hl => lv_ixor F.1 F.2.1 hd0 (lv_if_ge F.1 F.2.1 hd ht (fun q => kt ((i32_xor_ge ha hb h0).mp q) H locs ls hI hl) (fun q => kf (fun z => q ((i32_xor_ge ha hb h0).mpr z)) H locs ls hI hl))
theorem g_lxor_ge (F : Fx p s m args meth c cc nL own Ts rt D cA) {a b : Int} {off : Int} {tgt : Nat} (hd0 : decode cc pc = .ok (.lxor, 1)) (hd1 : decode cc (pc + 1) = .ok (.lconst 0, 1)) (hd2 : decode cc (pc + 2) = .ok (.lcmp, 1)) (hd : decode cc (pc + 3) = .ok (.ifCond .ge off, 3)) (ht : ((pc + 3 : Nat) : Int) + off = (tgt : Int)) (ha : I64 a) (hb : I64 b) (h0 : 0 ≤ b) (kt : 0 ≤ a → GW p l e R s m args below meth c Q Iv nL kc ks ws lv st tgt) (kf : ¬ 0 ≤ a → GW p l e R s m args below meth c Q Iv nL kc ks ws lv st (pc + 6)) : GW p l e R s m args below meth c Q Iv nL kc ks ws lv (jv b :: jv a :: st) pc := fun H locs ls hI hl => lv_lxor F.1 F.2.1 hd0 (lv_lconst F.1 F.2.1 hd1 (v := 0) (by decide) (W.lcmp F.1 F.2.1 hd2 (lv_if_ge F.1 F.2.1 hd ht (fun q => kt ((i64_xor_ge ha hb h0).mp ((lg_cmp_ge _ _).mp q)) H locs ls hI hl) (fun q => kf (fun z => q ((lg_cmp_ge _ _).mpr ((i64_xor_ge ha hb h0).mpr z))) H locs ls hI hl))))
theorem i32_div {a b : Int} (ha : I32 a) (hb : I32 b) (h : I32 (a.tdiv b)) : Int32.ofInt a / Int32.ofInt b = Int32.ofInt (a.tdiv b) := by
  rw [← Int32.toInt_inj, Int32.toInt_div, i32_toInt ha, i32_toInt hb, i32_toInt h]
  obtain ⟨h1, h2⟩ := h
  rw [Int.bmod_eq_of_le] <;> omega
theorem tdiv_abs {a b : Int} (hb : 0 < b) : (a.tdiv b).natAbs ≤ a.natAbs := by
  rw [Int.natAbs_tdiv]; exact Nat.div_le_self _ _
theorem tdiv_32 {a b : Int} (ha : I32 a) (hb : 0 < b) (h : I32 (-a)) : I32 (a.tdiv b) := by
  have := @tdiv_abs a b hb
  obtain ⟨h1, h2⟩ := ha; obtain ⟨h3, h4⟩ := h
  constructor <;> omega
theorem g_idiv (F : Fx p s m args meth c cc nL own Ts rt D cA) {a b : Int} (ha : I32 a) (hb : I32 b) (h0 : 0 < b) (hn : -2147483648 < a) (hd : decode cc pc = .ok (.idiv, 1)) (k : GW p l e R s m args below meth c Q Iv nL kc ks ws lv (iv (Int.tdiv a b) :: st) (pc + 1)) : GW p l e R s m args below meth c Q Iv nL kc ks ws lv (iv b :: iv a :: st) pc := fun H locs ls hI hl => lv_idiv F.1 F.2.1 hd (fun q => by have := (show b = 0 from (i32_eq hb ⟨by decide, by decide⟩).mp q); omega) (by rw [i32_div ha hb (tdiv_32 ha h0 ⟨by have := ha.2; omega, by omega⟩)]; exact k H locs ls hI hl)
theorem rem_eq (a b : Int) : a - a.tdiv b * b = a.tmod b := by rw [Int.tmod_def, Int.mul_comm]
theorem g_irem (F : Fx p s m args meth c cc nL own Ts rt D cA) {a b : Int} (ha : I32 a) (hb : I32 b) (h0 : 0 < b) (hn : -2147483648 < a) (hd : decode cc pc = .ok (.irem, 1)) (k : GW p l e R s m args below meth c Q Iv nL kc ks ws lv (iv (Int.tmod a b) :: st) (pc + 1)) : GW p l e R s m args below meth c Q Iv nL kc ks ws lv (iv b :: iv a :: st) pc := fun H locs ls hI hl => lv_irem F.1 F.2.1 hd (fun q => by have := (show b = 0 from (i32_eq hb ⟨by decide, by decide⟩).mp q); omega) (by rw [i32_div ha hb (tdiv_32 ha h0 ⟨by have := ha.2; omega, by omega⟩), ← Int32.ofInt_mul, ← Int32.ofInt_sub, rem_eq]; exact k H locs ls hI hl)
theorem tdiv_64 {a b : Int} (ha : I64 a) (h0 : b ≠ 0) (h : -9223372036854775808 < a) : I64 (a.tdiv b) := by
  have e : (a.tdiv b).natAbs ≤ a.natAbs := by rw [Int.natAbs_tdiv]; exact Nat.div_le_self _ _
  obtain ⟨h1, h2⟩ := ha
  constructor <;> omega
theorem g_lrem (F : Fx p s m args meth c cc nL own Ts rt D cA) {a b : Int} (ha : I64 a ∧ -9223372036854775808 < a) (hb : I64 b) (h0 : b ≠ 0) (hd : decode cc pc = .ok (.lrem, 1)) (k : GW p l e R s m args below meth c Q Iv nL kc ks ws lv (jv (Int.tmod a b) :: st) (pc + 1)) : GW p l e R s m args below meth c Q Iv nL kc ks ws lv (jv b :: jv a :: st) pc := fun H locs ls hI hl => lv_lrem F.1 F.2.1 hd (fun q => h0 ((i64_eq hb ⟨by decide, by decide⟩).mp q)) (by rw [i64_div ha.1 hb (tdiv_64 ha.1 h0 ha.2), ← Int64.ofInt_mul, ← Int64.ofInt_sub, rem_eq]; exact k H locs ls hI hl)
theorem g_alen (F : Fx p s m args meth c cc nL own Ts rt D cA) (hV : ∀ ws H locs, Iv ws H locs → va_P D vwCl ws H) (q0 t0 : Nat) {a : Nat} {cx : ClassId} {x : vp_A} {ty : FieldType} (he : ws[q0]? = some (a, .inl (cx, x))) (ht : (tysC cA)[t0]? = some (cx, ty)) {n : Nat} (hx : x.1 = n) (hd : decode cc pc = .ok (.arraylength, 1)) (kk : GW p l e R s m args below meth c Q Iv nL kc ks ws lv (iv (n : Int) :: st) (pc + 1)) : GW p l e R s m args below meth c Q Iv nL kc ks ws lv (.ref a :: st) pc := fun H locs ls hI hl => va_alen F.1 F.2.1 F.2.2.2.2.2.1.1 (hV _ _ _ hI) q0 t0 he ht (by rw [hx, i32_nat]; rfl) hd (kk H locs ls hI hl)
theorem i64_abs {a : Int} (ha : I64 a) : (if 0 < Int64.ofInt a then Int64.ofInt a else -Int64.ofInt a) = Int64.ofInt ((a.natAbs : Nat) : Int) := by
  have e : (0 < Int64.ofInt a) ↔ 0 < a := i64_lt (a := 0) ⟨by decide, by decide⟩ ha
  by_cases h : 0 < a
  · rw [if_pos (e.mpr h), show ((a.natAbs : Nat) : Int) = a by omega]
  · rw [if_neg (fun q => h (e.mp q)), ← Int64.ofInt_neg, show ((a.natAbs : Nat) : Int) = -a by omega]
theorem g_mabs (F : Fx p s m args meth c cc nL own Ts rt D cA) {a : Int} {index : Nat} (ha : I64 a) (h1 : Cond.methodLink own index Lib.MathLoose.abs_long.x ∈ Ts) (h2 : Cond.static Lib.MathLoose.abs_long.x ∈ Ts) (h3 : Cond.initialized "java/lang/Math" ∈ Ts) (h4 : Cond.code Lib.MathLoose.abs_long.x Lib.MathLoose.abs_long.code 2 (some .long) ∈ Ts) (hf : 1 ≤ R.frames) (hlo : (st.map fun v => v.category).sum + 13 ≤ R.locals) (hc : kc ≤ R.cells) (hs : ks ≤ R.slots) (hd : decode cc pc = .ok (.invokestatic index, 3)) (k : GW p l e R s m args below meth c Q Iv nL kc ks ws lv (jv ((a.natAbs : Nat) : Int) :: st) (pc + 3)) : GW p l e R s m args below meth c Q Iv nL kc ks ws lv (jv a :: st) pc := fun H locs ls hI hl => va_mabs_long F.1 F.2.1 (F.2.2.1.trans hl.1.symm) F.2.2.2.1 (F.2.2.2.2.1 _ h1) (F.2.2.2.2.1 _ h2) (F.2.2.2.2.1 _ h3) (F.2.2.2.2.1 _ h4) hf hlo hc hs hd (by rw [i64_abs ha]; exact k H locs ls hI hl)
theorem g_wsub {A : Nat → Prop} (ws' : va_W) (is : List Nat) (hn : va_nd is = true) (h : is.map (fun i => ws[i]?) = ws'.map some) (kk : GW p l e R s m args below meth c Q (IM D s A) nL kc ks ws' lv st pc) : GW p l e R s m args below meth c Q (IM D s A) nL kc ks ws lv st pc := fun H locs ls hI hl => kk H locs ls ⟨hI.1.sub is (by
  have : is.filterMap (fun i => ws[i]?) = ws' := by
    have h2 := congrArg (fun l => l.filterMap id) h
    simpa [List.filterMap_map, Function.comp] using h2
  exact this), hI.2.1.sub is hn h, hI.2.2⟩ hl
theorem g_eq {ws' : va_W} {lv' : List (Nat × Value)} {st' : List Value} (hw : ws = ws') (hl' : lv = lv') (hs : st = st') (kk : GW p l e R s m args below meth c Q Iv nL kc ks ws' lv' st' pc) : GW p l e R s m args below meth c Q Iv nL kc ks ws lv st pc := by subst hw hl' hs; exact kk
theorem g_zret (F : Fx p s m args meth c cc nL own Ts rt D cA) {A : Nat → Prop} {post : Option Value → va_W → Prop} {mc ms : Nat} {v : Int32} {ty : FieldType} (hr : rt = some ty) (hn : narrow ty (.int v) = .int v) (hc : kc ≤ mc) (hs : ks ≤ ms) (hp : post (some (.int v)) ws) (hd : decode cc pc = .ok (.ireturn, 1)) : GW p l e R s m args below meth c (MQ below (Qm D post A) args s mc ms A) (IM D s A) nL kc ks ws lv [.int v] pc := fun H locs ls hI hl => W.widen hc hs (W.zret F.1 F.2.1 (F.2.2.2.2.2.2.1.trans hr) hn (fun t ht hW => ⟨⟨_, ws, rfl, hp, by rw [ht]; exact hI.1, hI.2.1⟩, hI.2.2.F ht⟩) hI.2.2.2.2 hd F.2.2.2.2.2.2.2)
theorem g_lret (F : Fx p s m args meth c cc nL own Ts rt D cA) {A : Nat → Prop} {post : Option Value → va_W → Prop} {mc ms : Nat} {v : Int64} (hr : rt = some .long) (hc : kc ≤ mc) (hs : ks ≤ ms) (hp : post (some (.long v)) ws) (hd : decode cc pc = .ok (.lreturn, 1)) : GW p l e R s m args below meth c (MQ below (Qm D post A) args s mc ms A) (IM D s A) nL kc ks ws lv [.long v] pc := fun H locs ls hI hl => W.widen hc hs (W.lret F.1 F.2.1 (F.2.2.2.2.2.2.1.trans hr) (fun t ht hW => ⟨⟨_, ws, rfl, hp, by rw [ht]; exact hI.1, hI.2.1⟩, hI.2.2.F ht⟩) hI.2.2.2.2 hd F.2.2.2.2.2.2.2)
theorem g_vret (F : Fx p s m args meth c cc nL own Ts rt D cA) {A : Nat → Prop} {post : Option Value → va_W → Prop} {mc ms : Nat} (hr : rt = none) (hc : kc ≤ mc) (hs : ks ≤ ms) (hp : post none ws) (hd : decode cc pc = .ok (.return_, 1)) : GW p l e R s m args below meth c (MQ below (Qm D post A) args s mc ms A) (IM D s A) nL kc ks ws lv [] pc := fun H locs ls hI hl => W.widen hc hs (W.vret F.1 F.2.1 (F.2.2.2.2.2.2.1.trans hr) (fun t ht hW => ⟨⟨_, ws, rfl, hp, by rw [ht]; exact hI.1, hI.2.1⟩, hI.2.2.F ht⟩) hI.2.2.2.2 hd F.2.2.2.2.2.2.2)
theorem g_zretR (F : Fx p s m args meth c cc nL own Ts rt D cA) {post : Option Value → Prop} {v : Int32} {ty : FieldType} (hr : rt = some ty) (hn : narrow ty (.int v) = .int v) (hp : post (some (.int v))) (hd : decode cc pc = .ok (.ireturn, 1)) : GW p l e R s m args below meth c (MQ below (Qr post) args s 0 0 (fun _ => False)) (IR D s) nL 0 0 ws lv [.int v] pc := fun H locs ls hI hl => W.zret F.1 F.2.1 (F.2.2.2.2.2.2.1.trans hr) hn (fun t ht hW => ⟨_, rfl, hp, by rw [ht, hI.1]⟩) (by rw [hI.2.1]; intro q h; cases h) hd F.2.2.2.2.2.2.2
theorem g_lretR (F : Fx p s m args meth c cc nL own Ts rt D cA) {post : Option Value → Prop} {v : Int64} (hr : rt = some .long) (hp : post (some (.long v))) (hd : decode cc pc = .ok (.lreturn, 1)) : GW p l e R s m args below meth c (MQ below (Qr post) args s 0 0 (fun _ => False)) (IR D s) nL 0 0 ws lv [.long v] pc := fun H locs ls hI hl => W.lret F.1 F.2.1 (F.2.2.2.2.2.2.1.trans hr) (fun t ht hW => ⟨_, rfl, hp, by rw [ht, hI.1]⟩) (by rw [hI.2.1]; intro q h; cases h) hd F.2.2.2.2.2.2.2
theorem nar_b {P : Prop} {dP : Decidable P} : narrow .boolean (iv (@ite Int P dP 1 0)) = iv (@ite Int P dP 1 0) := by
  by_cases h : P
  · rw [if_pos h]; decide
  · rw [if_neg h]; decide
theorem nar_01 {v : Int} (h : v = 0 ∨ v = 1) : narrow .boolean (iv v) = iv v := by rcases h with rfl | rfl <;> decide
theorem g_callV (F : Fx p s m args meth c cc nL own Ts rt D cA) {A : Nat → Prop} {y : MethodName} {wds : List Cond} {rm : Room} {av As rest : List Value} {wc wr : va_W} {post : Option Value → va_W → Prop} {mc ms maxL n index : Nat} {ret : Option FieldType} {bytes : ByteArray} {C : String} {b ci q0 : Nat} {qc : vw_C} {fs : List Value} (hM : CT l y wds rm D cA av wc post mc ms) (cw : CallW R s args own C index y bytes maxL ret wds rm mc ms n) (hcl : vwCl[ci]? = some qc) (hC0 : C = qc.1) (hb : wc[q0]? = some (b, .inr (ci, fs))) (isC isR : List Nat) (hC : isC.map (fun i => ws[i]?) = wc.map some) (hR : isR.map (fun i => ws[i]?) = wr.map some) (hnC : va_nd isC = true) (hnR : va_nd isR = true) (hdis : ∀ i ∈ isR, i ∉ isC) (hav : av = (.ref b :: As)) (hn : As.length = n) (hW : (rest.map fun v => v.category).sum ≤ 8) (hf : kc + mc ≤ R.cells ∧ ks + ms ≤ R.slots) (hA : ∀ q, s.heap.size ≤ q → A q) (hd : decode cc pc = .ok (.invokevirtual index, 3))
    (kk : ∀ v w, post v w → GW p l e R s m args below meth c Q (IM D s A) nL (kc + mc) (ks + ms) (wr ++ w) lv (v.toList ++ rest) (pc + 3)) : GW p l e R s m args below meth c Q (IM D s A) nL kc ks ws lv (As.reverse ++ .ref b :: rest) pc := fun H locs ls hI hl => by
  have hav2 := hav.symm
  subst hav2
  have hPc := hI.1.sub (ws' := wc) isC (by
    have h2 := congrArg (fun l => l.filterMap id) hC
    simpa [List.filterMap_map, Function.comp] using h2)
  have hDc := hI.2.1.sub (ws' := wc) isC hnC hC
  have hFc := va_free (wc := wc) hI.2.1 hI.2.2 hA isC hC
  have hr := va_runV (g := F0 m pc ls (As.reverse ++ .ref b :: rest)) (As := As) (rest := rest) (H := H) (locs := locs) (cells := kc) (slots := ks) (below := below) (meth := meth) (e := e) ⟨F.1, F.2.1, F.2.2.1, F.2.2.2.1, F.2.2.2.2.1⟩ (hM H.size) cw
    ⟨fun a U g mk q => by obtain ⟨q0, q1, qP, qK, qD⟩ := q; exact ⟨q0, q1, qP, qK.call, qD⟩, (by subst hC0; exact va_recv F.2.2.2.2.2.1.1 hPc hcl hb), fun U hU hW => ⟨rfl, by rw [hU], by rw [hU]; exact hPc, F.2.2.2.2.2.1.warm hW, hDc.weaken (fun _ _ _ _ => trivial)⟩⟩
    rfl hn hl.1 (by simp) (lv_room hW) hd hf
  intro T hT X
  obtain ⟨v, st₀, t, T', L, h0, X', hL, e1, e2, ⟨⟨v', w, hv, hp, hPw, hDw⟩, hz, hk⟩, stp⟩ := hr T hT X
  cases hv
  rw [h0] at hz hk
  obtain ⟨hP2, hD2⟩ := va_join (wr := wr) (w1 := w) (H1 := t.heap) hI.1 hI.2.1 isC isR hC hR hnR hdis hk hFc hPw hDw
  obtain ⟨t2, a1, b1⟩ := kk v w hp T'.heap (locs ++ L) ls ⟨by rw [e1]; exact hP2, hD2, ⟨Nat.le_trans hI.2.2.1 (by rw [e1]; exact hz), fun q h1 h2 => by rw [e1, hk q (Nat.lt_of_lt_of_le h1 hI.2.2.1) (fun z => h2 (hFc q z))]; exact hI.2.2.2.1 q h1 h2, fun q hq => by
      rcases List.mem_append.mp hq with h | h
      · exact hI.2.2.2.2 q h
      · exact hFc _ (hL q h)⟩⟩ hl T' rfl X'
  exact ⟨t2, stp t2 a1, b1⟩
theorem g_callS (F : Fx p s m args meth c cc nL own Ts rt D cA) {A : Nat → Prop} {y : MethodName} {wds : List Cond} {rm : Room} {av As rest : List Value} {wc wr : va_W} {post : Option Value → va_W → Prop} {mc ms maxL n index : Nat} {ret : Option FieldType} {bytes : ByteArray} (hM : CT l y wds rm D cA av wc post mc ms) (cw : CallB R s args own index y bytes maxL ret wds rm mc ms n ∧ (Cond.static y).before args s = true) (isC isR : List Nat) (hC : isC.map (fun i => ws[i]?) = wc.map some) (hR : isR.map (fun i => ws[i]?) = wr.map some) (hnC : va_nd isC = true) (hnR : va_nd isR = true) (hdis : ∀ i ∈ isR, i ∉ isC) (hav : av = As) (hn : As.length = n) (hW : (rest.map fun v => v.category).sum ≤ 8) (hf : kc + mc ≤ R.cells ∧ ks + ms ≤ R.slots) (hA : ∀ q, s.heap.size ≤ q → A q) (hd : decode cc pc = .ok (.invokestatic index, 3))
    (kk : ∀ v w, post v w → GW p l e R s m args below meth c Q (IM D s A) nL (kc + mc) (ks + ms) (wr ++ w) lv (v.toList ++ rest) (pc + 3)) : GW p l e R s m args below meth c Q (IM D s A) nL kc ks ws lv (As.reverse ++ rest) pc := fun H locs ls hI hl => by
  have hav2 := hav.symm
  subst hav2
  have hPc := hI.1.sub (ws' := wc) isC (by
    have h2 := congrArg (fun l => l.filterMap id) hC
    simpa [List.filterMap_map, Function.comp] using h2)
  have hDc := hI.2.1.sub (ws' := wc) isC hnC hC
  have hFc := va_free (wc := wc) hI.2.1 hI.2.2 hA isC hC
  have hr := va_runS (g := F0 m pc ls (As.reverse ++ rest)) (As := As) (rest := rest) (H := H) (locs := locs) (cells := kc) (slots := ks) (below := below) (meth := meth) (e := e) ⟨F.1, F.2.1, F.2.2.1, F.2.2.2.1, F.2.2.2.2.1⟩ (hM H.size) cw
    ⟨fun a U g mk q => by obtain ⟨q0, q1, qP, qK, qD⟩ := q; exact ⟨q0, q1, qP, qK.call, qD⟩, fun U hU hW => ⟨rfl, by rw [hU], by rw [hU]; exact hPc, F.2.2.2.2.2.1.warm hW, hDc.weaken (fun _ _ _ _ => trivial)⟩⟩
    rfl hn hl.1 (by simp) (lv_room hW) hd hf
  intro T hT X
  obtain ⟨v, st₀, t, T', L, h0, X', hL, e1, e2, ⟨⟨v', w, hv, hp, hPw, hDw⟩, hz, hk⟩, stp⟩ := hr T hT X
  cases hv
  rw [h0] at hz hk
  obtain ⟨hP2, hD2⟩ := va_join (wr := wr) (w1 := w) (H1 := t.heap) hI.1 hI.2.1 isC isR hC hR hnR hdis hk hFc hPw hDw
  obtain ⟨t2, a1, b1⟩ := kk v w hp T'.heap (locs ++ L) ls ⟨by rw [e1]; exact hP2, hD2, ⟨Nat.le_trans hI.2.2.1 (by rw [e1]; exact hz), fun q h1 h2 => by rw [e1, hk q (Nat.lt_of_lt_of_le h1 hI.2.2.1) (fun z => h2 (hFc q z))]; exact hI.2.2.2.1 q h1 h2, fun q hq => by
      rcases List.mem_append.mp hq with h | h
      · exact hI.2.2.2.2 q h
      · exact hFc _ (hL q h)⟩⟩ hl T' rfl X'
  exact ⟨t2, stp t2 a1, b1⟩
theorem g_callI (F : Fx p s m args meth c cc nL own Ts rt D cA) {A : Nat → Prop} {y : MethodName} {wds : List Cond} {rm : Room} {av As rest : List Value} {wc wr : va_W} {post : Option Value → va_W → Prop} {mc ms maxL n index : Nat} {bytes : ByteArray} {b : Nat} (hM : CT l y wds rm D cA av wc post mc ms) (cw : CallB R s args own index y bytes maxL none wds rm mc ms n ∧ y.name = "<init>" ∧ (Cond.instanceMethod y).before args s = true) (isC isR : List Nat) (hC : isC.map (fun i => ws[i]?) = wc.map some) (hR : isR.map (fun i => ws[i]?) = wr.map some) (hnC : va_nd isC = true) (hnR : va_nd isR = true) (hdis : ∀ i ∈ isR, i ∉ isC) (hav : av = (.ref b :: As)) (hn : As.length = n) (hW : (rest.map fun v => v.category).sum ≤ 8) (hf : kc + mc ≤ R.cells ∧ ks + ms ≤ R.slots) (hA : ∀ q, s.heap.size ≤ q → A q) (hd : decode cc pc = .ok (.invokespecial index, 3))
    (kk : ∀ v w, post v w → GW p l e R s m args below meth c Q (IM D s A) nL (kc + mc) (ks + ms) (wr ++ w) lv (v.toList ++ rest) (pc + 3)) : GW p l e R s m args below meth c Q (IM D s A) nL kc ks ws lv (As.reverse ++ .ref b :: rest) pc := fun H locs ls hI hl => by
  have hav2 := hav.symm
  subst hav2
  have hPc := hI.1.sub (ws' := wc) isC (by
    have h2 := congrArg (fun l => l.filterMap id) hC
    simpa [List.filterMap_map, Function.comp] using h2)
  have hDc := hI.2.1.sub (ws' := wc) isC hnC hC
  have hFc := va_free (wc := wc) hI.2.1 hI.2.2 hA isC hC
  have hr := va_runI (g := F0 m pc ls (As.reverse ++ .ref b :: rest)) (As := As) (rest := rest) (H := H) (locs := locs) (cells := kc) (slots := ks) (below := below) (meth := meth) (e := e) ⟨F.1, F.2.1, F.2.2.1, F.2.2.2.1, F.2.2.2.2.1⟩ (hM H.size) cw
    ⟨fun a U g mk q => by obtain ⟨q0, q1, qP, qK, qD⟩ := q; exact ⟨q0, q1, qP, qK.call, qD⟩, fun U hU hW => ⟨rfl, by rw [hU], by rw [hU]; exact hPc, F.2.2.2.2.2.1.warm hW, hDc.weaken (fun _ _ _ _ => trivial)⟩⟩
    rfl hn hl.1 (by simp) (lv_room hW) hd hf
  intro T hT X
  obtain ⟨v, st₀, t, T', L, h0, X', hL, e1, e2, ⟨⟨v', w, hv, hp, hPw, hDw⟩, hz, hk⟩, stp⟩ := hr T hT X
  cases hv
  rw [h0] at hz hk
  obtain ⟨hP2, hD2⟩ := va_join (wr := wr) (w1 := w) (H1 := t.heap) hI.1 hI.2.1 isC isR hC hR hnR hdis hk hFc hPw hDw
  obtain ⟨t2, a1, b1⟩ := kk v w hp T'.heap (locs ++ L) ls ⟨by rw [e1]; exact hP2, hD2, ⟨Nat.le_trans hI.2.2.1 (by rw [e1]; exact hz), fun q h1 h2 => by rw [e1, hk q (Nat.lt_of_lt_of_le h1 hI.2.2.1) (fun z => h2 (hFc q z))]; exact hI.2.2.2.1 q h1 h2, fun q hq => by
      rcases List.mem_append.mp hq with h | h
      · exact hI.2.2.2.2 q h
      · exact hFc _ (hL q h)⟩⟩ hl T' rfl X'
  exact ⟨t2, stp t2 a1, b1⟩
theorem g_callIN (F : Fx p s m args meth c cc nL own Ts rt D cA) {A : Nat → Prop} {y : MethodName} {wds : List Cond} {rm : Room} {av As rest : List Value} {wc wr : va_W} {post : Option Value → va_W → Prop} {mc ms maxL n index : Nat} {bytes : ByteArray} {b : Nat} {host : String} (hM : CT l y wds rm D cA av wc post mc ms) (cw : va_CN R s args own index y host bytes maxL none wds rm mc ms n ∧ y.name = "<init>" ∧ (Cond.instanceMethod y).before args s = true) (isC isR : List Nat) (hC : isC.map (fun i => ws[i]?) = wc.map some) (hR : isR.map (fun i => ws[i]?) = wr.map some) (hnC : va_nd isC = true) (hnR : va_nd isR = true) (hdis : ∀ i ∈ isR, i ∉ isC) (hav : av = (.ref b :: As)) (hn : As.length = n) (hW : (rest.map fun v => v.category).sum ≤ 8) (hf : kc + mc ≤ R.cells ∧ ks + ms ≤ R.slots) (hA : ∀ q, s.heap.size ≤ q → A q) (hd : decode cc pc = .ok (.invokespecial index, 3))
    (kk : ∀ v w, post v w → GW p l e R s m args below meth c Q (IM D s A) nL (kc + mc) (ks + ms) (wr ++ w) lv (v.toList ++ rest) (pc + 3)) : GW p l e R s m args below meth c Q (IM D s A) nL kc ks ws lv (As.reverse ++ .ref b :: rest) pc := fun H locs ls hI hl => by
  have hav2 := hav.symm
  subst hav2
  have hPc := hI.1.sub (ws' := wc) isC (by
    have h2 := congrArg (fun l => l.filterMap id) hC
    simpa [List.filterMap_map, Function.comp] using h2)
  have hDc := hI.2.1.sub (ws' := wc) isC hnC hC
  have hFc := va_free (wc := wc) hI.2.1 hI.2.2 hA isC hC
  have hr := va_runIN (g := F0 m pc ls (As.reverse ++ .ref b :: rest)) (As := As) (rest := rest) (H := H) (locs := locs) (cells := kc) (slots := ks) (below := below) (meth := meth) (e := e) ⟨F.1, F.2.1, F.2.2.1, F.2.2.2.1, F.2.2.2.2.1⟩ (hM H.size) cw
    ⟨fun a U g mk q => by obtain ⟨q0, q1, qP, qK, qD⟩ := q; exact ⟨q0, q1, qP, qK.call, qD⟩, fun U hU hW => ⟨rfl, by rw [hU], by rw [hU]; exact hPc, F.2.2.2.2.2.1.warm hW, hDc.weaken (fun _ _ _ _ => trivial)⟩⟩
    rfl hn hl.1 (by simp) (lv_room hW) hd hf
  intro T hT X
  obtain ⟨v, st₀, t, T', L, h0, X', hL, e1, e2, ⟨⟨v', w, hv, hp, hPw, hDw⟩, hz, hk⟩, stp⟩ := hr T hT X
  cases hv
  rw [h0] at hz hk
  obtain ⟨hP2, hD2⟩ := va_join (wr := wr) (w1 := w) (H1 := t.heap) hI.1 hI.2.1 isC isR hC hR hnR hdis hk hFc hPw hDw
  obtain ⟨t2, a1, b1⟩ := kk v w hp T'.heap (locs ++ L) ls ⟨by rw [e1]; exact hP2, hD2, ⟨Nat.le_trans hI.2.2.1 (by rw [e1]; exact hz), fun q h1 h2 => by rw [e1, hk q (Nat.lt_of_lt_of_le h1 hI.2.2.1) (fun z => h2 (hFc q z))]; exact hI.2.2.2.1 q h1 h2, fun q hq => by
      rcases List.mem_append.mp hq with h | h
      · exact hI.2.2.2.2 q h
      · exact hFc _ (hL q h)⟩⟩ hl T' rfl X'
  exact ⟨t2, stp t2 a1, b1⟩
theorem g_callRV (F : Fx p s m args meth c cc nL own Ts rt D cA) (hV : ∀ ws H locs, Iv ws H locs → va_P D vwCl ws H) {y : MethodName} {wds : List Cond} {rm : Room} {av As rest : List Value} {wc : va_W} {post : Option Value → Prop} {maxL n index : Nat} {ret : Option FieldType} {bytes : ByteArray} {C : String} {b ci q0 : Nat} {qc : vw_C} {fs : List Value} (hM : CR l y wds rm D cA av wc post) (cw : CallW R s args own C index y bytes maxL ret wds rm 0 0 n) (hcl : vwCl[ci]? = some qc) (hC0 : C = qc.1) (hb : wc[q0]? = some (b, .inr (ci, fs))) (isC : List Nat) (hC : isC.map (fun i => ws[i]?) = wc.map some) (hav : av = (.ref b :: As)) (hn : As.length = n) (hW : (rest.map fun v => v.category).sum ≤ 8) (hf : kc ≤ R.cells ∧ ks ≤ R.slots) (hd : decode cc pc = .ok (.invokevirtual index, 3))
    (kk : ∀ v, post v → GW p l e R s m args below meth c Q Iv nL kc ks ws lv (v.toList ++ rest) (pc + 3)) : GW p l e R s m args below meth c Q Iv nL kc ks ws lv (As.reverse ++ .ref b :: rest) pc := fun H locs ls hI hl => by
  have hav2 := hav.symm
  subst hav2
  have hPc := (hV _ _ _ hI).sub (ws' := wc) isC (by
    have h2 := congrArg (fun l => l.filterMap id) hC
    simpa [List.filterMap_map, Function.comp] using h2)
  have hr := va_runV (g := F0 m pc ls (As.reverse ++ .ref b :: rest)) (As := As) (rest := rest) (H := H) (locs := locs) (cells := kc) (slots := ks) (below := below) (meth := meth) (e := e) ⟨F.1, F.2.1, F.2.2.1, F.2.2.2.1, F.2.2.2.2.1⟩ hM cw
    ⟨fun a U g mk q => by obtain ⟨q0, qP, qK⟩ := q; exact ⟨q0, qP, qK.call⟩, (by subst hC0; exact va_recv F.2.2.2.2.2.1.1 hPc hcl hb), fun U hU hW => ⟨rfl, by rw [hU]; exact hPc, F.2.2.2.2.2.1.warm hW⟩⟩
    rfl hn hl.1 (by simp) (lv_room hW) hd hf
  intro T hT X
  obtain ⟨v, st₀, t, T', L, h0, X', hL, e1, e2, ⟨v', hv, hp, hh⟩, stp⟩ := hr T hT X
  cases hv
  have hH : T'.heap = H := by rw [e1, hh, h0]
  obtain ⟨t2, a1, b1⟩ := kk v hp H locs ls hI hl T' hH (Stand.forget X' (fun q h => (hL q h).elim))
  exact ⟨t2, stp t2 a1, b1⟩
theorem g_callRS (F : Fx p s m args meth c cc nL own Ts rt D cA) (hV : ∀ ws H locs, Iv ws H locs → va_P D vwCl ws H) {y : MethodName} {wds : List Cond} {rm : Room} {av As rest : List Value} {wc : va_W} {post : Option Value → Prop} {maxL n index : Nat} {ret : Option FieldType} {bytes : ByteArray} (hM : CR l y wds rm D cA av wc post) (cw : CallB R s args own index y bytes maxL ret wds rm 0 0 n ∧ (Cond.static y).before args s = true) (isC : List Nat) (hC : isC.map (fun i => ws[i]?) = wc.map some) (hav : av = As) (hn : As.length = n) (hW : (rest.map fun v => v.category).sum ≤ 8) (hf : kc ≤ R.cells ∧ ks ≤ R.slots) (hd : decode cc pc = .ok (.invokestatic index, 3))
    (kk : ∀ v, post v → GW p l e R s m args below meth c Q Iv nL kc ks ws lv (v.toList ++ rest) (pc + 3)) : GW p l e R s m args below meth c Q Iv nL kc ks ws lv (As.reverse ++ rest) pc := fun H locs ls hI hl => by
  have hav2 := hav.symm
  subst hav2
  have hPc := (hV _ _ _ hI).sub (ws' := wc) isC (by
    have h2 := congrArg (fun l => l.filterMap id) hC
    simpa [List.filterMap_map, Function.comp] using h2)
  have hr := va_runS (g := F0 m pc ls (As.reverse ++ rest)) (As := As) (rest := rest) (H := H) (locs := locs) (cells := kc) (slots := ks) (below := below) (meth := meth) (e := e) ⟨F.1, F.2.1, F.2.2.1, F.2.2.2.1, F.2.2.2.2.1⟩ hM cw
    ⟨fun a U g mk q => by obtain ⟨q0, qP, qK⟩ := q; exact ⟨q0, qP, qK.call⟩, fun U hU hW => ⟨rfl, by rw [hU]; exact hPc, F.2.2.2.2.2.1.warm hW⟩⟩
    rfl hn hl.1 (by simp) (lv_room hW) hd hf
  intro T hT X
  obtain ⟨v, st₀, t, T', L, h0, X', hL, e1, e2, ⟨v', hv, hp, hh⟩, stp⟩ := hr T hT X
  cases hv
  have hH : T'.heap = H := by rw [e1, hh, h0]
  obtain ⟨t2, a1, b1⟩ := kk v hp H locs ls hI hl T' hH (Stand.forget X' (fun q h => (hL q h).elim))
  exact ⟨t2, stp t2 a1, b1⟩
theorem g_callRSN (F : Fx p s m args meth c cc nL own Ts rt D cA) (hV : ∀ ws H locs, Iv ws H locs → va_P D vwCl ws H) {y : MethodName} {wds : List Cond} {rm : Room} {av As rest : List Value} {wc : va_W} {post : Option Value → Prop} {maxL n index : Nat} {ret : Option FieldType} {bytes : ByteArray} {host : String} (hM : CR l y wds rm D cA av wc post) (cw : va_CN R s args own index y host bytes maxL ret wds rm 0 0 n ∧ (Cond.static y).before args s = true ∧ True) (isC : List Nat) (hC : isC.map (fun i => ws[i]?) = wc.map some) (hav : av = As) (hn : As.length = n) (hW : (rest.map fun v => v.category).sum ≤ 8) (hf : kc ≤ R.cells ∧ ks ≤ R.slots) (hd : decode cc pc = .ok (.invokestatic index, 3))
    (kk : ∀ v, post v → GW p l e R s m args below meth c Q Iv nL kc ks ws lv (v.toList ++ rest) (pc + 3)) : GW p l e R s m args below meth c Q Iv nL kc ks ws lv (As.reverse ++ rest) pc := fun H locs ls hI hl => by
  have hav2 := hav.symm
  subst hav2
  have hPc := (hV _ _ _ hI).sub (ws' := wc) isC (by
    have h2 := congrArg (fun l => l.filterMap id) hC
    simpa [List.filterMap_map, Function.comp] using h2)
  have hr := va_runSN (g := F0 m pc ls (As.reverse ++ rest)) (As := As) (rest := rest) (H := H) (locs := locs) (cells := kc) (slots := ks) (below := below) (meth := meth) (e := e) ⟨F.1, F.2.1, F.2.2.1, F.2.2.2.1, F.2.2.2.2.1⟩ hM cw
    ⟨fun a U g mk q => by obtain ⟨q0, qP, qK⟩ := q; exact ⟨q0, qP, qK.call⟩, fun U hU hW => ⟨rfl, by rw [hU]; exact hPc, F.2.2.2.2.2.1.warm hW⟩⟩
    rfl hn hl.1 (by simp) (lv_room hW) hd hf
  intro T hT X
  obtain ⟨v, st₀, t, T', L, h0, X', hL, e1, e2, ⟨v', hv, hp, hh⟩, stp⟩ := hr T hT X
  cases hv
  have hH : T'.heap = H := by rw [e1, hh, h0]
  obtain ⟨t2, a1, b1⟩ := kk v hp H locs ls hI hl T' hH (Stand.forget X' (fun q h => (hL q h).elim))
  exact ⟨t2, stp t2 a1, b1⟩
end
