section
variable {p : Program} {l : Launch} {e : Env} {R : Room} {s : State} {m : MethodId} {args : Array Value} {below : List Frame} {meth : Method} {c : Code} {Q : State → Prop} {Iv : va_W → Heap → List Loc → Prop} {nL kc ks : Nat} {ws : va_W} {lv : List (Nat × Value)} {st : List Value} {pc : Nat} {cc : ByteArray} {own : String} {Ts : List Cond} {rt : Option FieldType} {D : va_G} {cA : Nat → ClassId}
theorem g_rand (F : Fx p s m args meth c cc nL own Ts rt D cA) {x y : Int32} (hd : decode cc pc = .ok (.iand, 1)) (k : GW p l e R s m args below meth c Q Iv nL kc ks ws lv (.int (x &&& y) :: st) (pc + 1)) : GW p l e R s m args below meth c Q Iv nL kc ks ws lv (.int y :: .int x :: st) pc := fun H locs ls hI hl => lv_iand F.1 F.2.1 hd (k H locs ls hI hl)
theorem g_radd (F : Fx p s m args meth c cc nL own Ts rt D cA) {x y : Int32} (hd : decode cc pc = .ok (.iadd, 1)) (k : GW p l e R s m args below meth c Q Iv nL kc ks ws lv (.int (x + y) :: st) (pc + 1)) : GW p l e R s m args below meth c Q Iv nL kc ks ws lv (.int y :: .int x :: st) pc := fun H locs ls hI hl => lv_iadd F.1 F.2.1 hd (k H locs ls hI hl)
theorem g_rsub (F : Fx p s m args meth c cc nL own Ts rt D cA) {x y : Int32} (hd : decode cc pc = .ok (.isub, 1)) (k : GW p l e R s m args below meth c Q Iv nL kc ks ws lv (.int (x - y) :: st) (pc + 1)) : GW p l e R s m args below meth c Q Iv nL kc ks ws lv (.int y :: .int x :: st) pc := fun H locs ls hI hl => lv_isub F.1 F.2.1 hd (k H locs ls hI hl)
def shrU (x y : Int32) : Int32 := (x.toUInt32 >>> (y.toUInt32 &&& Int32.toUInt32 31)).toInt32
theorem g_rushr (F : Fx p s m args meth c cc nL own Ts rt D cA) {x y : Int32} (hd : decode cc pc = .ok (.iushr, 1)) (k : GW p l e R s m args below meth c Q Iv nL kc ks ws lv (.int (shrU x y) :: st) (pc + 1)) : GW p l e R s m args below meth c Q Iv nL kc ks ws lv (.int y :: .int x :: st) pc := fun H locs ls hI hl => lv_iushr F.1 F.2.1 hd rfl (k H locs ls hI hl)
theorem g_rldcw (F : Fx p s m args meth c cc nL own Ts rt D cA) {index : Nat} {v : Int32} (hc : Cond.constant own index v ∈ Ts) (hd : decode cc pc = .ok (.ldc_w index, 3)) (k : GW p l e R s m args below meth c Q Iv nL kc ks ws lv (.int v :: st) (pc + 3)) : GW p l e R s m args below meth c Q Iv nL kc ks ws lv st pc := fun H locs ls hI hl => lv_ldcw F.1 F.2.1 F.2.2.2.1 (F.2.2.2.2.1 _ hc) hd (k H locs ls hI hl)
end
/-- how many of the first seven bits are set -/
def bitsN (n : Nat) : Nat := n % 2 + n / 2 % 2 + n / 4 % 2 + n / 8 % 2 + n / 16 % 2 + n / 32 % 2 + n / 64 % 2
def btCA (x : Int32) : Int32 := x - (shrU x (Int32.ofInt 1) &&& 1431655765)
def btCB (x : Int32) : Int32 := (x &&& 858993459) + (shrU x (Int32.ofInt 2) &&& 858993459)
def btCC (x : Int32) : Int32 := x + shrU x (Int32.ofInt 4) &&& 252645135
def btCD (x : Int32) : Int32 := x + shrU x (Int32.ofInt 8)
def btCE (x : Int32) : Int32 := x + shrU x (Int32.ofInt 16)
def btCF (x : Int32) : Int32 := btCE (btCD (btCC (btCB (btCA x)))) &&& Int32.ofInt 63
theorem btC_all : ∀ n : Fin 128, btCF (Int32.ofInt ((n.val : Nat) : Int)) = Int32.ofInt ((bitsN n.val : Nat) : Int) := by decide +kernel
theorem kJ6_bitCount_0f7a4 (l : Launch) (D : va_G) (cA : Nat → ClassId) (n : Nat) (hn : n < 128) : CR l yJ6_bitCount_0f7a4 wsJ6_bitCount_0f7a4 ({ frames := 0, cells := 0, slots := 0, locals := 0 }) D cA [iv ((n : Nat) : Int)] ([]) (fun ov => ov = some (iv ((bitsN n : Nat) : Int))) := by
  refine CR.mk (cc := cJ6_bitCount_0f7a4) (maxL := 1) (ret := (some .int)) (by decide +kernel) rfl (Nat.le_of_ble_eq_true rfl) ?_
  intro p_ e_ s_ m_ b_ me_ c_ F
  have hV := @IR_P D s_
  refine g_lsub ([(0, .int (Int32.ofInt ((n : Nat) : Int)))]) [0] rfl ?_
  refine g_iload_n F 0 rfl rfl dJ6_bitCount_0f7a4_0 ?_
  refine g_iload_n F 0 rfl rfl dJ6_bitCount_0f7a4_1 ?_
  refine g_iconst F dJ6_bitCount_0f7a4_2 ?_
  refine g_rushr F dJ6_bitCount_0f7a4_3 ?_
  refine g_rldcw F (List.mem_of_getElem? (i := 1) rfl) dJ6_bitCount_0f7a4_4 ?_
  refine g_rand F dJ6_bitCount_0f7a4_7 ?_
  refine g_rsub F dJ6_bitCount_0f7a4_8 ?_
  refine g_istore_n F ([(0, .int (btCA (Int32.ofInt ((n : Nat) : Int))))]) rfl rfl (by decide) dJ6_bitCount_0f7a4_9 ?_
  refine g_iload_n F 0 rfl rfl dJ6_bitCount_0f7a4_10 ?_
  refine g_rldcw F (List.mem_of_getElem? (i := 2) rfl) dJ6_bitCount_0f7a4_11 ?_
  refine g_rand F dJ6_bitCount_0f7a4_14 ?_
  refine g_iload_n F 0 rfl rfl dJ6_bitCount_0f7a4_15 ?_
  refine g_iconst F dJ6_bitCount_0f7a4_16 ?_
  refine g_rushr F dJ6_bitCount_0f7a4_17 ?_
  refine g_rldcw F (List.mem_of_getElem? (i := 2) rfl) dJ6_bitCount_0f7a4_18 ?_
  refine g_rand F dJ6_bitCount_0f7a4_21 ?_
  refine g_radd F dJ6_bitCount_0f7a4_22 ?_
  refine g_istore_n F ([(0, .int (btCB (btCA (Int32.ofInt ((n : Nat) : Int)))))]) rfl rfl (by decide) dJ6_bitCount_0f7a4_23 ?_
  refine g_iload_n F 0 rfl rfl dJ6_bitCount_0f7a4_24 ?_
  refine g_iload_n F 0 rfl rfl dJ6_bitCount_0f7a4_25 ?_
  refine g_iconst F dJ6_bitCount_0f7a4_26 ?_
  refine g_rushr F dJ6_bitCount_0f7a4_27 ?_
  refine g_radd F dJ6_bitCount_0f7a4_28 ?_
  refine g_rldcw F (List.mem_of_getElem? (i := 3) rfl) dJ6_bitCount_0f7a4_29 ?_
  refine g_rand F dJ6_bitCount_0f7a4_32 ?_
  refine g_istore_n F ([(0, .int (btCC (btCB (btCA (Int32.ofInt ((n : Nat) : Int))))))]) rfl rfl (by decide) dJ6_bitCount_0f7a4_33 ?_
  refine g_iload_n F 0 rfl rfl dJ6_bitCount_0f7a4_34 ?_
  refine g_iload_n F 0 rfl rfl dJ6_bitCount_0f7a4_35 ?_
  refine g_bipush F dJ6_bitCount_0f7a4_36 (by decide) ?_
  refine g_rushr F dJ6_bitCount_0f7a4_38 ?_
  refine g_radd F dJ6_bitCount_0f7a4_39 ?_
  refine g_istore_n F ([(0, .int (btCD (btCC (btCB (btCA (Int32.ofInt ((n : Nat) : Int)))))))]) rfl rfl (by decide) dJ6_bitCount_0f7a4_40 ?_
  refine g_iload_n F 0 rfl rfl dJ6_bitCount_0f7a4_41 ?_
  refine g_iload_n F 0 rfl rfl dJ6_bitCount_0f7a4_42 ?_
  refine g_bipush F dJ6_bitCount_0f7a4_43 (by decide) ?_
  refine g_rushr F dJ6_bitCount_0f7a4_45 ?_
  refine g_radd F dJ6_bitCount_0f7a4_46 ?_
  refine g_istore_n F ([(0, .int (btCE (btCD (btCC (btCB (btCA (Int32.ofInt ((n : Nat) : Int))))))))]) rfl rfl (by decide) dJ6_bitCount_0f7a4_47 ?_
  refine g_iload_n F 0 rfl rfl dJ6_bitCount_0f7a4_48 ?_
  refine g_bipush F dJ6_bitCount_0f7a4_49 (by decide) ?_
  refine g_rand F dJ6_bitCount_0f7a4_51 ?_
  exact g_zretR F rfl rfl (congrArg (fun z => some (Value.int z)) (btC_all ⟨n, hn⟩)) dJ6_bitCount_0f7a4_52
