abbrev wC (cA : Nat → ClassId) (a : Nat → Nat) (pa : Nat) (ba : Nat) (sa : Nat) (qa : Nat) (ha : Nat) (so : Int) : va_W := [(a 0, .inr (6, [.ref pa, .ref ba, .ref sa, .ref qa, .ref ha, iv so]))]
section
variable {p : Program} {l : Launch} {e : Env} {R : Room} {s : State} {m : MethodId} {args : Array Value} {below : List Frame} {meth : Method} {c : Code} {Q : State → Prop} {Iv : va_W → Heap → List Loc → Prop} {nL kc ks : Nat} {ws : va_W} {lv : List (Nat × Value)} {st : List Value} {pc : Nat} {cc : ByteArray} {own : String} {Ts : List Cond} {rt : Option FieldType} {D : va_G} {cA : Nat → ClassId}
theorem g_tswIn (F : Fx p s m args meth c cc nL own Ts rt D cA) {dflt lo hi off z : Int} {offs : Array Int} {len tgt : Nat} (k : Nat) (hd : decode cc pc = .ok (.tableswitch dflt lo hi offs, len)) (hz : z = lo + (k : Int)) (ho : offs[k]? = some off) (ht : (pc : Int) + off = (tgt : Int)) (hr : I32 z) (h2 : z ≤ hi) (kk : GW p l e R s m args below meth c Q Iv nL kc ks ws lv st tgt) : GW p l e R s m args below meth c Q Iv nL kc ks ws lv (iv z :: st) pc := fun H locs ls hI hl => lv_tableIn F.1 F.2.1 hd (by rw [i32_toInt hr]; omega) (by rw [i32_toInt hr]; omega) (by rw [i32_toInt hr, show (z - lo).toNat = k by omega]; exact ho) ht (kk H locs ls hI hl)
theorem g_tswOut (F : Fx p s m args meth c cc nL own Ts rt D cA) {dflt lo hi z : Int} {offs : Array Int} {len tgt : Nat} (hd : decode cc pc = .ok (.tableswitch dflt lo hi offs, len)) (hr : I32 z) (h : z < lo ∨ hi < z) (ht : (pc : Int) + dflt = (tgt : Int)) (kk : GW p l e R s m args below meth c Q Iv nL kc ks ws lv st tgt) : GW p l e R s m args below meth c Q Iv nL kc ks ws lv (iv z :: st) pc := fun H locs ls hI hl => lv_tableOut F.1 F.2.1 hd (by rw [i32_toInt hr]; exact h) ht (kk H locs ls hI hl)
end
set_option maxHeartbeats 4000000 in
set_option maxRecDepth 100000 in
theorem kX6_cost (l : Launch) (D : va_G) (cA : Nat → ClassId) (x : Nat → Nat) (x_ba : Nat) (x_sa : Nat) (x_qa : Nat) (x_ha : Nat) (x_so : Int) (a : Nat → Nat) (a_kd : Nat → Int) (a_lo : Nat → Int) (a_hi : Nat → Int) (a_co : Nat → Int) (a_pa : Nat → Int) (a_rk : Nat → Int) (a_nu : Nat → Int) (a_ct : Nat → Int) (a_sa : Nat → Int) (a_nc : Nat) (a_nr : Nat) (c : Int) (v : Int) (hc : -2147483648 ≤ c ∧ c ≤ 2147483647) (hv : -2147483648 ≤ v ∧ v ≤ 2147483647) (qnc : a_nc ≤ 5) (qnr : a_nr ≤ 7) (qkd : ∀ j, 0 ≤ a_kd j ∧ a_kd j ≤ 2) : CT l yX6_cost wsX6_cost ({ frames := 1, cells := 0, slots := 0, locals := 21 }) D cA [.ref (x 0), iv (c), iv (v)] (wC cA x (a 0) (x_ba) (x_sa) (x_qa) (x_ha) (x_so) ++ wP cA a (a_kd) (a_lo) (a_hi) (a_co) (a_pa) (a_rk) (a_nu) (a_ct) (a_sa) (((a_nc : Nat) : Int)) (((a_nr : Nat) : Int))) (fun ov ow => ov = some (iv (if (0 ≤ c ∧ c < (a_nc : Int)) ∧ -9 ≤ v ∧ v ≤ 9 then a_co c.toNat else -2000000001)) ∧ ow = wC cA x (a 0) x_ba x_sa x_qa x_ha x_so ++ (if (0 ≤ c ∧ c < (a_nc : Int)) ∧ -9 ≤ v ∧ v ≤ 9 then wP cA a a_kd a_lo a_hi (va_up a_co c.toNat v) a_pa a_rk a_nu a_ct a_sa (a_nc : Int) (a_nr : Int) else wP cA a a_kd a_lo a_hi a_co a_pa a_rk a_nu a_ct a_sa (a_nc : Int) (a_nr : Int))) 0 0 := by
  refine CT.mk (cc := cX6_cost) (maxL := 4) (ret := (some .int)) (by decide +kernel) rfl (Nat.le_of_ble_eq_true rfl) ?_
  intro p_ e_ s_ m_ b_ me_ c_ A F hnm hA
  have hV := @IM_P D s_ A
  have iX6 : ∀ w ∈ u_ws RX6 TX6 6, w ∈ wsX6_cost := by decide +kernel
  have iX2 : ∀ w ∈ u_ws RX2 TX2 11, w ∈ wsX6_cost := by decide +kernel
  refine g_lsub ([(0, .ref (x 0)), (1, iv (c)), (2, iv (v))]) [0, 1, 2] rfl ?_
  refine g_aload_n F 0 rfl rfl dX6_cost_0 ?_
  refine g_get F hV iX6 0 rfl rfl 0 (by decide) (List.mem_of_getElem? (i := 1) rfl) rfl dX6_cost_1 ?_
  refine g_iload_n F 1 rfl rfl dX6_cost_4 ?_
  refine g_callRV F hV (As := [iv (c)]) (rest := []) (kX2_hasColumn l D cA a a_kd a_lo a_hi a_co a_pa a_rk a_nu a_ct a_sa a_nc a_nr c (by omega) (qnc)) (cwV 1 F.2.2.2.2.1 gX6_cost_X2_hasColumn rfl rfl rfl (by decide +kernel) ⟨Nat.le_of_ble_eq_true rfl, Nat.le_of_ble_eq_true rfl⟩) rfl rfl (q0 := 0) rfl [1, 2, 3, 4, 5, 6, 7, 8, 9, 10] rfl rfl rfl (Nat.le_of_ble_eq_true rfl) ⟨Nat.le_of_ble_eq_true rfl, Nat.le_of_ble_eq_true rfl⟩ dX6_cost_5 (fun v hv => ?_)
  subst hv
  refine g_eq (st' := [iv (if 0 ≤ c ∧ c < a_nc then 1 else 0)]) rfl rfl rfl ?_
  refine g_ifb_eq F (tgt := 20) dX6_cost_8 (by decide) (fun c_1 => ?_) (fun c_1 => ?_)
  · skip
    refine g_ldc F (-2000000001) (by decide) (List.mem_of_getElem? (i := 2) rfl) dX6_cost_20 ?_
    exact g_zret F rfl rfl (by decide) (by decide) ⟨congrArg (fun z => some (iv z)) (show (-2000000001 : Int) = if (0 ≤ c ∧ c < (a_nc : Int)) ∧ -9 ≤ v ∧ v ≤ 9 then a_co c.toNat else -2000000001 by first | (rw [if_neg (by omega)]; done) | (rw [if_pos (by omega), Int.toNat_natCast]; done) | (rw [if_pos (by omega)]; done)), (by first | (rw [if_neg (by omega)]; done) | (rw [if_pos (by omega), Int.toNat_natCast]; done))⟩ dX6_cost_22
  · skip
    obtain ⟨cn, hcn⟩ : ∃ y : Nat, c = (y : Int) := ⟨c.toNat, by omega⟩
    subst hcn
    refine g_iload_n F 2 rfl rfl dX6_cost_11 ?_
    refine g_bipush F dX6_cost_12 (by decide) ?_
    refine g_callRS F hV (As := [iv (v), iv (9)]) (rest := []) (kX6_isWithin l D cA v 9 (by omega) (by omega)) (va_cwS 2 F.2.2.2.2.1 gX6_cost_X6_isWithin rfl rfl rfl (by decide +kernel) ⟨Nat.le_of_ble_eq_true rfl, Nat.le_of_ble_eq_true rfl⟩) [] rfl rfl rfl (Nat.le_of_ble_eq_true rfl) ⟨Nat.le_of_ble_eq_true rfl, Nat.le_of_ble_eq_true rfl⟩ dX6_cost_14 (fun v hv => ?_)
    subst hv
    refine g_eq (st' := [iv (if -9 ≤ v ∧ v ≤ 9 then 1 else 0)]) rfl rfl rfl ?_
    refine g_ifb_ne F (tgt := 23) dX6_cost_17 (by decide) (fun c_2 => ?_) (fun c_2 => ?_)
    · skip
      refine g_aload_n F 0 rfl rfl dX6_cost_23 ?_
      refine g_get F hV iX6 0 rfl rfl 0 (by decide) (List.mem_of_getElem? (i := 1) rfl) rfl dX6_cost_24 ?_
      refine g_get F hV iX2 1 rfl rfl 3 (by decide) (List.mem_of_getElem? (i := 3) rfl) rfl dX6_cost_27 ?_
      refine g_iload_n F 1 rfl rfl dX6_cost_30 ?_
      refine g_iald F hV 5 rfl (cn) (by omega) (by omega) (by decide) dX6_cost_31 ?_
      refine g_istore_n F ([(3, iv (a_co cn)), (0, .ref (x 0)), (1, iv (((cn : Nat) : Int))), (2, iv (v))]) rfl rfl (by decide) dX6_cost_32 ?_
      refine g_aload_n F 1 rfl rfl dX6_cost_33 ?_
      refine g_get F hV iX6 0 rfl rfl 0 (by decide) (List.mem_of_getElem? (i := 1) rfl) rfl dX6_cost_34 ?_
      refine g_get F hV iX2 1 rfl rfl 3 (by decide) (List.mem_of_getElem? (i := 3) rfl) rfl dX6_cost_37 ?_
      refine g_iload_n F 2 rfl rfl dX6_cost_40 ?_
      refine g_iload_n F 3 rfl rfl dX6_cost_41 ?_
      refine g_iast F 5 rfl (cn) (by omega) (by omega) (by decide) (wC cA x (a 0) (x_ba) (x_sa) (x_qa) (x_ha) (x_so) ++ wP cA a (a_kd) (a_lo) (a_hi) (va_up a_co cn v) (a_pa) (a_rk) (a_nu) (a_ct) (a_sa) (((a_nc : Nat) : Int)) (((a_nr : Nat) : Int))) rfl dX6_cost_42 ?_
      refine g_iload_n F 0 rfl rfl dX6_cost_43 ?_
      exact g_zret F rfl rfl (by decide) (by decide) ⟨congrArg (fun z => some (iv z)) (show (a_co cn : Int) = if (0 ≤ ((cn : Nat) : Int) ∧ ((cn : Nat) : Int) < (a_nc : Int)) ∧ -9 ≤ v ∧ v ≤ 9 then a_co ((cn : Nat) : Int).toNat else -2000000001 by first | (rw [if_neg (by omega)]; done) | (rw [if_pos (by omega), Int.toNat_natCast]; done) | (rw [if_pos (by omega)]; done)), (by first | (rw [if_neg (by omega)]; done) | (rw [if_pos (by omega), Int.toNat_natCast]; done))⟩ dX6_cost_44
    · skip
      refine g_ldc F (-2000000001) (by decide) (List.mem_of_getElem? (i := 2) rfl) dX6_cost_20 ?_
      exact g_zret F rfl rfl (by decide) (by decide) ⟨congrArg (fun z => some (iv z)) (show (-2000000001 : Int) = if (0 ≤ ((cn : Nat) : Int) ∧ ((cn : Nat) : Int) < (a_nc : Int)) ∧ -9 ≤ v ∧ v ≤ 9 then a_co ((cn : Nat) : Int).toNat else -2000000001 by first | (rw [if_neg (by omega)]; done) | (rw [if_pos (by omega), Int.toNat_natCast]; done) | (rw [if_pos (by omega)]; done)), (by first | (rw [if_neg (by omega)]; done) | (rw [if_pos (by omega), Int.toNat_natCast]; done))⟩ dX6_cost_22

set_option maxHeartbeats 4000000 in
set_option maxRecDepth 100000 in
theorem kX6_number (l : Launch) (D : va_G) (cA : Nat → ClassId) (x : Nat → Nat) (x_ba : Nat) (x_sa : Nat) (x_qa : Nat) (x_ha : Nat) (x_so : Int) (a : Nat → Nat) (a_kd : Nat → Int) (a_lo : Nat → Int) (a_hi : Nat → Int) (a_co : Nat → Int) (a_pa : Nat → Int) (a_rk : Nat → Int) (a_nu : Nat → Int) (a_ct : Nat → Int) (a_sa : Nat → Int) (a_nc : Nat) (a_nr : Nat) (c : Int) (v : Int) (hc : -2147483648 ≤ c ∧ c ≤ 2147483647) (hv : -2147483648 ≤ v ∧ v ≤ 2147483647) (qnc : a_nc ≤ 5) (qnr : a_nr ≤ 7) (qkd : ∀ j, 0 ≤ a_kd j ∧ a_kd j ≤ 2) : CT l yX6_number wsX6_number ({ frames := 1, cells := 0, slots := 0, locals := 21 }) D cA [.ref (x 0), iv (c), iv (v)] (wC cA x (a 0) (x_ba) (x_sa) (x_qa) (x_ha) (x_so) ++ wP cA a (a_kd) (a_lo) (a_hi) (a_co) (a_pa) (a_rk) (a_nu) (a_ct) (a_sa) (((a_nc : Nat) : Int)) (((a_nr : Nat) : Int))) (fun ov ow => ov = some (iv (if (0 ≤ c ∧ c < (a_nr : Int)) ∧ -99 ≤ v ∧ v ≤ 99 then a_nu c.toNat else -2000000001)) ∧ ow = wC cA x (a 0) x_ba x_sa x_qa x_ha x_so ++ (if (0 ≤ c ∧ c < (a_nr : Int)) ∧ -99 ≤ v ∧ v ≤ 99 then wP cA a a_kd a_lo a_hi a_co a_pa a_rk (va_up a_nu c.toNat v) a_ct a_sa (a_nc : Int) (a_nr : Int) else wP cA a a_kd a_lo a_hi a_co a_pa a_rk a_nu a_ct a_sa (a_nc : Int) (a_nr : Int))) 0 0 := by
  refine CT.mk (cc := cX6_number) (maxL := 4) (ret := (some .int)) (by decide +kernel) rfl (Nat.le_of_ble_eq_true rfl) ?_
  intro p_ e_ s_ m_ b_ me_ c_ A F hnm hA
  have hV := @IM_P D s_ A
  have iX6 : ∀ w ∈ u_ws RX6 TX6 6, w ∈ wsX6_number := by decide +kernel
  have iX2 : ∀ w ∈ u_ws RX2 TX2 11, w ∈ wsX6_number := by decide +kernel
  refine g_lsub ([(0, .ref (x 0)), (1, iv (c)), (2, iv (v))]) [0, 1, 2] rfl ?_
  refine g_aload_n F 0 rfl rfl dX6_number_0 ?_
  refine g_get F hV iX6 0 rfl rfl 0 (by decide) (List.mem_of_getElem? (i := 1) rfl) rfl dX6_number_1 ?_
  refine g_iload_n F 1 rfl rfl dX6_number_4 ?_
  refine g_callRV F hV (As := [iv (c)]) (rest := []) (kX2_hasRow l D cA a a_kd a_lo a_hi a_co a_pa a_rk a_nu a_ct a_sa a_nc a_nr c (by omega) (qnr)) (cwV 1 F.2.2.2.2.1 gX6_number_X2_hasRow rfl rfl rfl (by decide +kernel) ⟨Nat.le_of_ble_eq_true rfl, Nat.le_of_ble_eq_true rfl⟩) rfl rfl (q0 := 0) rfl [1, 2, 3, 4, 5, 6, 7, 8, 9, 10] rfl rfl rfl (Nat.le_of_ble_eq_true rfl) ⟨Nat.le_of_ble_eq_true rfl, Nat.le_of_ble_eq_true rfl⟩ dX6_number_5 (fun v hv => ?_)
  subst hv
  refine g_eq (st' := [iv (if 0 ≤ c ∧ c < a_nr then 1 else 0)]) rfl rfl rfl ?_
  refine g_ifb_eq F (tgt := 20) dX6_number_8 (by decide) (fun c_1 => ?_) (fun c_1 => ?_)
  · skip
    refine g_ldc F (-2000000001) (by decide) (List.mem_of_getElem? (i := 2) rfl) dX6_number_20 ?_
    exact g_zret F rfl rfl (by decide) (by decide) ⟨congrArg (fun z => some (iv z)) (show (-2000000001 : Int) = if (0 ≤ c ∧ c < (a_nr : Int)) ∧ -99 ≤ v ∧ v ≤ 99 then a_nu c.toNat else -2000000001 by first | (rw [if_neg (by omega)]; done) | (rw [if_pos (by omega), Int.toNat_natCast]; done) | (rw [if_pos (by omega)]; done)), (by first | (rw [if_neg (by omega)]; done) | (rw [if_pos (by omega), Int.toNat_natCast]; done))⟩ dX6_number_22
  · skip
    obtain ⟨cn, hcn⟩ : ∃ y : Nat, c = (y : Int) := ⟨c.toNat, by omega⟩
    subst hcn
    refine g_iload_n F 2 rfl rfl dX6_number_11 ?_
    refine g_bipush F dX6_number_12 (by decide) ?_
    refine g_callRS F hV (As := [iv (v), iv (99)]) (rest := []) (kX6_isWithin l D cA v 99 (by omega) (by omega)) (va_cwS 2 F.2.2.2.2.1 gX6_number_X6_isWithin rfl rfl rfl (by decide +kernel) ⟨Nat.le_of_ble_eq_true rfl, Nat.le_of_ble_eq_true rfl⟩) [] rfl rfl rfl (Nat.le_of_ble_eq_true rfl) ⟨Nat.le_of_ble_eq_true rfl, Nat.le_of_ble_eq_true rfl⟩ dX6_number_14 (fun v hv => ?_)
    subst hv
    refine g_eq (st' := [iv (if -99 ≤ v ∧ v ≤ 99 then 1 else 0)]) rfl rfl rfl ?_
    refine g_ifb_ne F (tgt := 23) dX6_number_17 (by decide) (fun c_2 => ?_) (fun c_2 => ?_)
    · skip
      refine g_aload_n F 0 rfl rfl dX6_number_23 ?_
      refine g_get F hV iX6 0 rfl rfl 0 (by decide) (List.mem_of_getElem? (i := 1) rfl) rfl dX6_number_24 ?_
      refine g_get F hV iX2 1 rfl rfl 6 (by decide) (List.mem_of_getElem? (i := 3) rfl) rfl dX6_number_27 ?_
      refine g_iload_n F 1 rfl rfl dX6_number_30 ?_
      refine g_iald F hV 8 rfl (cn) (by omega) (by omega) (by decide) dX6_number_31 ?_
      refine g_istore_n F ([(3, iv (a_nu cn)), (0, .ref (x 0)), (1, iv (((cn : Nat) : Int))), (2, iv (v))]) rfl rfl (by decide) dX6_number_32 ?_
      refine g_aload_n F 1 rfl rfl dX6_number_33 ?_
      refine g_get F hV iX6 0 rfl rfl 0 (by decide) (List.mem_of_getElem? (i := 1) rfl) rfl dX6_number_34 ?_
      refine g_get F hV iX2 1 rfl rfl 6 (by decide) (List.mem_of_getElem? (i := 3) rfl) rfl dX6_number_37 ?_
      refine g_iload_n F 2 rfl rfl dX6_number_40 ?_
      refine g_iload_n F 3 rfl rfl dX6_number_41 ?_
      refine g_iast F 8 rfl (cn) (by omega) (by omega) (by decide) (wC cA x (a 0) (x_ba) (x_sa) (x_qa) (x_ha) (x_so) ++ wP cA a (a_kd) (a_lo) (a_hi) (a_co) (a_pa) (a_rk) (va_up a_nu cn v) (a_ct) (a_sa) (((a_nc : Nat) : Int)) (((a_nr : Nat) : Int))) rfl dX6_number_42 ?_
      refine g_iload_n F 0 rfl rfl dX6_number_43 ?_
      exact g_zret F rfl rfl (by decide) (by decide) ⟨congrArg (fun z => some (iv z)) (show (a_nu cn : Int) = if (0 ≤ ((cn : Nat) : Int) ∧ ((cn : Nat) : Int) < (a_nr : Int)) ∧ -99 ≤ v ∧ v ≤ 99 then a_nu ((cn : Nat) : Int).toNat else -2000000001 by first | (rw [if_neg (by omega)]; done) | (rw [if_pos (by omega), Int.toNat_natCast]; done) | (rw [if_pos (by omega)]; done)), (by first | (rw [if_neg (by omega)]; done) | (rw [if_pos (by omega), Int.toNat_natCast]; done))⟩ dX6_number_44
    · skip
      refine g_ldc F (-2000000001) (by decide) (List.mem_of_getElem? (i := 2) rfl) dX6_number_20 ?_
      exact g_zret F rfl rfl (by decide) (by decide) ⟨congrArg (fun z => some (iv z)) (show (-2000000001 : Int) = if (0 ≤ ((cn : Nat) : Int) ∧ ((cn : Nat) : Int) < (a_nr : Int)) ∧ -99 ≤ v ∧ v ≤ 99 then a_nu ((cn : Nat) : Int).toNat else -2000000001 by first | (rw [if_neg (by omega)]; done) | (rw [if_pos (by omega), Int.toNat_natCast]; done) | (rw [if_pos (by omega)]; done)), (by first | (rw [if_neg (by omega)]; done) | (rw [if_pos (by omega), Int.toNat_natCast]; done))⟩ dX6_number_22

set_option maxHeartbeats 4000000 in
set_option maxRecDepth 100000 in
theorem kX6_counts (l : Launch) (D : va_G) (cA : Nat → ClassId) (x : Nat → Nat) (x_ba : Nat) (x_sa : Nat) (x_qa : Nat) (x_ha : Nat) (x_so : Int) (a : Nat → Nat) (a_kd : Nat → Int) (a_lo : Nat → Int) (a_hi : Nat → Int) (a_co : Nat → Int) (a_pa : Nat → Int) (a_rk : Nat → Int) (a_nu : Nat → Int) (a_ct : Nat → Int) (a_sa : Nat → Int) (a_nc : Nat) (a_nr : Nat) (c : Int) (v : Int) (hc : -2147483648 ≤ c ∧ c ≤ 2147483647) (hv : -2147483648 ≤ v ∧ v ≤ 2147483647) (qnc : a_nc ≤ 5) (qnr : a_nr ≤ 7) (qkd : ∀ j, 0 ≤ a_kd j ∧ a_kd j ≤ 2) : CT l yX6_counts wsX6_counts ({ frames := 1, cells := 0, slots := 0, locals := 21 }) D cA [.ref (x 0), iv (c), iv (v)] (wC cA x (a 0) (x_ba) (x_sa) (x_qa) (x_ha) (x_so) ++ wP cA a (a_kd) (a_lo) (a_hi) (a_co) (a_pa) (a_rk) (a_nu) (a_ct) (a_sa) (((a_nc : Nat) : Int)) (((a_nr : Nat) : Int))) (fun ov ow => ov = some (iv (if (0 ≤ c ∧ c < (a_nr : Int)) ∧ (v = 0 ∨ v = 1) then a_ct c.toNat else -2000000001)) ∧ ow = wC cA x (a 0) x_ba x_sa x_qa x_ha x_so ++ (if (0 ≤ c ∧ c < (a_nr : Int)) ∧ (v = 0 ∨ v = 1) then wP cA a a_kd a_lo a_hi a_co a_pa a_rk a_nu (va_up a_ct c.toNat v) a_sa (a_nc : Int) (a_nr : Int) else wP cA a a_kd a_lo a_hi a_co a_pa a_rk a_nu a_ct a_sa (a_nc : Int) (a_nr : Int))) 0 0 := by
  refine CT.mk (cc := cX6_counts) (maxL := 4) (ret := (some .int)) (by decide +kernel) rfl (Nat.le_of_ble_eq_true rfl) ?_
  intro p_ e_ s_ m_ b_ me_ c_ A F hnm hA
  have hV := @IM_P D s_ A
  have iX6 : ∀ w ∈ u_ws RX6 TX6 6, w ∈ wsX6_counts := by decide +kernel
  have iX2 : ∀ w ∈ u_ws RX2 TX2 11, w ∈ wsX6_counts := by decide +kernel
  refine g_lsub ([(0, .ref (x 0)), (1, iv (c)), (2, iv (v))]) [0, 1, 2] rfl ?_
  refine g_aload_n F 0 rfl rfl dX6_counts_0 ?_
  refine g_get F hV iX6 0 rfl rfl 0 (by decide) (List.mem_of_getElem? (i := 1) rfl) rfl dX6_counts_1 ?_
  refine g_iload_n F 1 rfl rfl dX6_counts_4 ?_
  refine g_callRV F hV (As := [iv (c)]) (rest := []) (kX2_hasRow l D cA a a_kd a_lo a_hi a_co a_pa a_rk a_nu a_ct a_sa a_nc a_nr c (by omega) (qnr)) (cwV 1 F.2.2.2.2.1 gX6_counts_X2_hasRow rfl rfl rfl (by decide +kernel) ⟨Nat.le_of_ble_eq_true rfl, Nat.le_of_ble_eq_true rfl⟩) rfl rfl (q0 := 0) rfl [1, 2, 3, 4, 5, 6, 7, 8, 9, 10] rfl rfl rfl (Nat.le_of_ble_eq_true rfl) ⟨Nat.le_of_ble_eq_true rfl, Nat.le_of_ble_eq_true rfl⟩ dX6_counts_5 (fun v hv => ?_)
  subst hv
  refine g_eq (st' := [iv (if 0 ≤ c ∧ c < a_nr then 1 else 0)]) rfl rfl rfl ?_
  refine g_ifb_eq F (tgt := 18) dX6_counts_8 (by decide) (fun c_1 => ?_) (fun c_1 => ?_)
  · skip
    refine g_ldc F (-2000000001) (by decide) (List.mem_of_getElem? (i := 2) rfl) dX6_counts_18 ?_
    exact g_zret F rfl rfl (by decide) (by decide) ⟨congrArg (fun z => some (iv z)) (show (-2000000001 : Int) = if (0 ≤ c ∧ c < (a_nr : Int)) ∧ (v = 0 ∨ v = 1) then a_ct c.toNat else -2000000001 by first | (rw [if_neg (by omega)]; done) | (rw [if_pos (by omega), Int.toNat_natCast]; done) | (rw [if_pos (by omega)]; done)), (by first | (rw [if_neg (by omega)]; done) | (rw [if_pos (by omega), Int.toNat_natCast]; done))⟩ dX6_counts_20
  · skip
    obtain ⟨cn, hcn⟩ : ∃ y : Nat, c = (y : Int) := ⟨c.toNat, by omega⟩
    subst hcn
    refine g_iload_n F 2 rfl rfl dX6_counts_11 ?_
    refine g_callRS F hV (As := [iv (v)]) (rest := []) (kX6_isBit l D cA v (by omega)) (va_cwS 1 F.2.2.2.2.1 gX6_counts_X6_isBit rfl rfl rfl (by decide +kernel) ⟨Nat.le_of_ble_eq_true rfl, Nat.le_of_ble_eq_true rfl⟩) [] rfl rfl rfl (Nat.le_of_ble_eq_true rfl) ⟨Nat.le_of_ble_eq_true rfl, Nat.le_of_ble_eq_true rfl⟩ dX6_counts_12 (fun v hv => ?_)
    subst hv
    refine g_eq (st' := [iv (if v = 0 ∨ v = 1 then 1 else 0)]) rfl rfl rfl ?_
    refine g_ifb_ne F (tgt := 21) dX6_counts_15 (by decide) (fun c_2 => ?_) (fun c_2 => ?_)
    · skip
      refine g_aload_n F 0 rfl rfl dX6_counts_21 ?_
      refine g_get F hV iX6 0 rfl rfl 0 (by decide) (List.mem_of_getElem? (i := 1) rfl) rfl dX6_counts_22 ?_
      refine g_get F hV iX2 1 rfl rfl 7 (by decide) (List.mem_of_getElem? (i := 3) rfl) rfl dX6_counts_25 ?_
      refine g_iload_n F 1 rfl rfl dX6_counts_28 ?_
      refine g_iald F hV 9 rfl (cn) (by omega) (by omega) (by decide) dX6_counts_29 ?_
      refine g_istore_n F ([(3, iv (a_ct cn)), (0, .ref (x 0)), (1, iv (((cn : Nat) : Int))), (2, iv (v))]) rfl rfl (by decide) dX6_counts_30 ?_
      refine g_aload_n F 1 rfl rfl dX6_counts_31 ?_
      refine g_get F hV iX6 0 rfl rfl 0 (by decide) (List.mem_of_getElem? (i := 1) rfl) rfl dX6_counts_32 ?_
      refine g_get F hV iX2 1 rfl rfl 7 (by decide) (List.mem_of_getElem? (i := 3) rfl) rfl dX6_counts_35 ?_
      refine g_iload_n F 2 rfl rfl dX6_counts_38 ?_
      refine g_iload_n F 3 rfl rfl dX6_counts_39 ?_
      refine g_iast F 9 rfl (cn) (by omega) (by omega) (by decide) (wC cA x (a 0) (x_ba) (x_sa) (x_qa) (x_ha) (x_so) ++ wP cA a (a_kd) (a_lo) (a_hi) (a_co) (a_pa) (a_rk) (a_nu) (va_up a_ct cn v) (a_sa) (((a_nc : Nat) : Int)) (((a_nr : Nat) : Int))) rfl dX6_counts_40 ?_
      refine g_iload_n F 0 rfl rfl dX6_counts_41 ?_
      exact g_zret F rfl rfl (by decide) (by decide) ⟨congrArg (fun z => some (iv z)) (show (a_ct cn : Int) = if (0 ≤ ((cn : Nat) : Int) ∧ ((cn : Nat) : Int) < (a_nr : Int)) ∧ (v = 0 ∨ v = 1) then a_ct ((cn : Nat) : Int).toNat else -2000000001 by first | (rw [if_neg (by omega)]; done) | (rw [if_pos (by omega), Int.toNat_natCast]; done) | (rw [if_pos (by omega)]; done)), (by first | (rw [if_neg (by omega)]; done) | (rw [if_pos (by omega), Int.toNat_natCast]; done))⟩ dX6_counts_42
    · skip
      refine g_ldc F (-2000000001) (by decide) (List.mem_of_getElem? (i := 2) rfl) dX6_counts_18 ?_
      exact g_zret F rfl rfl (by decide) (by decide) ⟨congrArg (fun z => some (iv z)) (show (-2000000001 : Int) = if (0 ≤ ((cn : Nat) : Int) ∧ ((cn : Nat) : Int) < (a_nr : Int)) ∧ (v = 0 ∨ v = 1) then a_ct ((cn : Nat) : Int).toNat else -2000000001 by first | (rw [if_neg (by omega)]; done) | (rw [if_pos (by omega), Int.toNat_natCast]; done) | (rw [if_pos (by omega)]; done)), (by first | (rw [if_neg (by omega)]; done) | (rw [if_pos (by omega), Int.toNat_natCast]; done))⟩ dX6_counts_20
