set_option maxHeartbeats 4000000 in
set_option maxRecDepth 100000 in
theorem kX6_price (l : Launch) (D : va_G) (cA : Nat → ClassId) (x : Nat → Nat) (x_pa : Nat) (x_ba : Nat) (x_sa : Nat) (x_qa : Nat) (x_so : Int) (h : Nat → Nat) (h_pl : Nat → Int) (h_pr : Nat → Int) (h_pb : Int) (h_qb : Int) (c : Int) (v : Int) (hc : -2147483648 ≤ c ∧ c ≤ 2147483647) (hv : -2147483648 ≤ v ∧ v ≤ 2147483647) : CT l yX6_price wsX6_price ({ frames := 1, cells := 0, slots := 0, locals := 21 }) D cA [.ref (x 0), iv (c), iv (v)] (wC cA x (x_pa) (x_ba) (x_sa) (x_qa) (h 0) (x_so) ++ wH cA h (h_pl) (h_pr) (h_pb) (h_qb)) (fun ov ow => ov = some (iv (if (0 ≤ c ∧ c < 7) ∧ -1000000 ≤ v ∧ v ≤ 1000000 then 0 else -2000000001)) ∧ ow = wC cA x x_pa x_ba x_sa x_qa (h 0) x_so ++ (if (0 ≤ c ∧ c < 7) ∧ -1000000 ≤ v ∧ v ≤ 1000000 then wH cA h h_pl (va_up h_pr c.toNat v) h_pb h_qb else wH cA h h_pl h_pr h_pb h_qb)) 0 0 := by
  refine CT.mk (cc := cX6_price) (maxL := 3) (ret := (some .int)) (by decide +kernel) rfl (Nat.le_of_ble_eq_true rfl) ?_
  intro p_ e_ s_ m_ b_ me_ c_ A F hnm hA
  have hV := @IM_P D s_ A
  have iX6 : ∀ w ∈ u_ws RX6 TX6 6, w ∈ wsX6_price := by decide +kernel
  have iX1 : ∀ w ∈ u_ws RX1 TX1 4, w ∈ wsX6_price := by decide +kernel
  refine g_lsub ([(0, .ref (x 0)), (1, iv (c)), (2, iv (v))]) [0, 1, 2] rfl ?_
  refine g_iload_n F 1 rfl rfl dX6_price_0 ?_
  refine g_if_lt F (tgt := 19) dX6_price_1 (by decide) ⟨by omega, by omega⟩ (fun c_1 => ?_) (fun c_1 => ?_)
  · skip
    refine g_ldc F (-2000000001) (by decide) (List.mem_of_getElem? (i := 2) rfl) dX6_price_19 ?_
    exact g_zret F rfl rfl (by decide) (by decide) ⟨congrArg (fun z => some (iv z)) (show (-2000000001 : Int) = if (0 ≤ c ∧ c < 7) ∧ -1000000 ≤ v ∧ v ≤ 1000000 then 0 else -2000000001 by (try simp only [Int.toNat_natCast]); first | (rw [if_neg (by omega)]; done) | (rw [if_pos (by omega)]; done)), (by (try simp only [Int.toNat_natCast]); first | (rw [if_neg (by omega)]; done) | (rw [if_pos (by omega)]; done))⟩ dX6_price_21
  · skip
    refine g_iload_n F 1 rfl rfl dX6_price_4 ?_
    refine g_bipush F dX6_price_5 (by decide) ?_
    refine g_icmp_ge F (tgt := 19) dX6_price_7 (by decide) ⟨by omega, by omega⟩ ⟨by decide, by decide⟩ (fun c_2 => ?_) (fun c_2 => ?_)
    · skip
      refine g_ldc F (-2000000001) (by decide) (List.mem_of_getElem? (i := 2) rfl) dX6_price_19 ?_
      exact g_zret F rfl rfl (by decide) (by decide) ⟨congrArg (fun z => some (iv z)) (show (-2000000001 : Int) = if (0 ≤ c ∧ c < 7) ∧ -1000000 ≤ v ∧ v ≤ 1000000 then 0 else -2000000001 by (try simp only [Int.toNat_natCast]); first | (rw [if_neg (by omega)]; done) | (rw [if_pos (by omega)]; done)), (by (try simp only [Int.toNat_natCast]); first | (rw [if_neg (by omega)]; done) | (rw [if_pos (by omega)]; done))⟩ dX6_price_21
    · skip
      obtain ⟨cn, hcn⟩ : ∃ y : Nat, c = (y : Int) := ⟨c.toNat, by omega⟩
      subst hcn
      refine g_iload_n F 2 rfl rfl dX6_price_10 ?_
      refine g_ldc F (1000000) (by decide) (List.mem_of_getElem? (i := 1) rfl) dX6_price_11 ?_
      refine g_callRS F hV (As := [iv (v), iv (1000000)]) (rest := []) (kX6_isWithin l D cA v 1000000 (by omega) (by omega)) (va_cwS 2 F.2.2.2.2.1 gX6_price_X6_isWithin rfl rfl rfl (by decide +kernel) ⟨Nat.le_of_ble_eq_true rfl, Nat.le_of_ble_eq_true rfl⟩) [] rfl rfl rfl (Nat.le_of_ble_eq_true rfl) ⟨Nat.le_of_ble_eq_true rfl, Nat.le_of_ble_eq_true rfl⟩ dX6_price_13 (fun v hv => ?_)
      subst hv
      refine g_eq (st' := [iv (if -1000000 ≤ v ∧ v ≤ 1000000 then 1 else 0)]) rfl rfl rfl ?_
      refine g_ifb_ne F (tgt := 22) dX6_price_16 (by decide) (fun c_3 => ?_) (fun c_3 => ?_)
      · skip
        refine g_aload_n F 0 rfl rfl dX6_price_22 ?_
        refine g_get F hV iX6 0 rfl rfl 4 (by decide) (List.mem_of_getElem? (i := 3) rfl) rfl dX6_price_23 ?_
        refine g_get F hV iX1 1 rfl rfl 1 (by decide) (List.mem_of_getElem? (i := 4) rfl) rfl dX6_price_26 ?_
        refine g_iload_n F 1 rfl rfl dX6_price_29 ?_
        refine g_iload_n F 2 rfl rfl dX6_price_30 ?_
        refine g_iast F 3 rfl (cn) (by omega) (by omega) (by decide) (wC cA x (x_pa) (x_ba) (x_sa) (x_qa) (h 0) (x_so) ++ wH cA h (h_pl) (va_up h_pr cn v) (h_pb) (h_qb)) rfl dX6_price_31 ?_
        refine g_iconst F dX6_price_32 ?_
        exact g_zret F rfl rfl (by decide) (by decide) ⟨congrArg (fun z => some (iv z)) (show (0 : Int) = if (0 ≤ ((cn : Nat) : Int) ∧ ((cn : Nat) : Int) < 7) ∧ -1000000 ≤ v ∧ v ≤ 1000000 then 0 else -2000000001 by (try simp only [Int.toNat_natCast]); first | (rw [if_neg (by omega)]; done) | (rw [if_pos (by omega)]; done)), (by (try simp only [Int.toNat_natCast]); first | (rw [if_neg (by omega)]; done) | (rw [if_pos (by omega)]; done))⟩ dX6_price_33
      · skip
        refine g_ldc F (-2000000001) (by decide) (List.mem_of_getElem? (i := 2) rfl) dX6_price_19 ?_
        exact g_zret F rfl rfl (by decide) (by decide) ⟨congrArg (fun z => some (iv z)) (show (-2000000001 : Int) = if (0 ≤ ((cn : Nat) : Int) ∧ ((cn : Nat) : Int) < 7) ∧ -1000000 ≤ v ∧ v ≤ 1000000 then 0 else -2000000001 by (try simp only [Int.toNat_natCast]); first | (rw [if_neg (by omega)]; done) | (rw [if_pos (by omega)]; done)), (by (try simp only [Int.toNat_natCast]); first | (rw [if_neg (by omega)]; done) | (rw [if_pos (by omega)]; done))⟩ dX6_price_21

set_option maxHeartbeats 4000000 in
set_option maxRecDepth 100000 in
theorem kX6_over (l : Launch) (D : va_G) (cA : Nat → ClassId) (x : Nat → Nat) (x_pa : Nat) (x_ba : Nat) (x_sa : Nat) (x_qa : Nat) (x_so : Int) (h : Nat → Nat) (h_pl : Nat → Int) (h_pr : Nat → Int) (h_pb : Int) (h_qb : Int) (v : Int) (hv : -2147483648 ≤ v ∧ v ≤ 2147483647) (hpb : 1 ≤ h_pb ∧ h_pb ≤ 2000000000) : CT l yX6_over wsX6_over ({ frames := 1, cells := 0, slots := 0, locals := 20 }) D cA [.ref (x 0), iv (v)] (wC cA x (x_pa) (x_ba) (x_sa) (x_qa) (h 0) (x_so) ++ wH cA h (h_pl) (h_pr) (h_pb) (h_qb)) (fun ov ow => ov = some (iv (if 1 ≤ v ∧ v ≤ 1000000 then h_pb else -2000000001)) ∧ ow = wC cA x x_pa x_ba x_sa x_qa (h 0) x_so ++ (if 1 ≤ v ∧ v ≤ 1000000 then wH cA h h_pl h_pr v h_qb else wH cA h h_pl h_pr h_pb h_qb)) 0 0 := by
  refine CT.mk (cc := cX6_over) (maxL := 3) (ret := (some .int)) (by decide +kernel) rfl (Nat.le_of_ble_eq_true rfl) ?_
  intro p_ e_ s_ m_ b_ me_ c_ A F hnm hA
  have hV := @IM_P D s_ A
  have iX6 : ∀ w ∈ u_ws RX6 TX6 6, w ∈ wsX6_over := by decide +kernel
  have iX1 : ∀ w ∈ u_ws RX1 TX1 4, w ∈ wsX6_over := by decide +kernel
  refine g_lsub ([(0, .ref (x 0)), (1, iv (v))]) [0, 1] rfl ?_
  refine g_iload_n F 1 rfl rfl dX6_over_0 ?_
  refine g_callRS F hV (As := [iv (v)]) (rest := []) (kX6_isBelow l D cA v (by omega)) (va_cwS 1 F.2.2.2.2.1 gX6_over_X6_isBelow rfl rfl rfl (by decide +kernel) ⟨Nat.le_of_ble_eq_true rfl, Nat.le_of_ble_eq_true rfl⟩) [] rfl rfl rfl (Nat.le_of_ble_eq_true rfl) ⟨Nat.le_of_ble_eq_true rfl, Nat.le_of_ble_eq_true rfl⟩ dX6_over_1 (fun v hv => ?_)
  subst hv
  refine g_eq (st' := [iv (if 1 ≤ v ∧ v ≤ 1000000 then 1 else 0)]) rfl rfl rfl ?_
  refine g_ifb_ne F (tgt := 10) dX6_over_4 (by decide) (fun c_1 => ?_) (fun c_1 => ?_)
  · skip
    refine g_aload_n F 0 rfl rfl dX6_over_10 ?_
    refine g_get F hV iX6 0 rfl rfl 4 (by decide) (List.mem_of_getElem? (i := 2) rfl) rfl dX6_over_11 ?_
    refine g_get F hV iX1 1 rfl rfl 2 (by decide) (List.mem_of_getElem? (i := 3) rfl) rfl dX6_over_14 ?_
    refine g_l2i F dX6_over_17 ?_
    refine g_istore_n F ([(2, iv (h_pb)), (0, .ref (x 0)), (1, iv (v))]) rfl rfl (by decide) dX6_over_18 ?_
    refine g_aload_n F 1 rfl rfl dX6_over_19 ?_
    refine g_get F hV iX6 0 rfl rfl 4 (by decide) (List.mem_of_getElem? (i := 2) rfl) rfl dX6_over_20 ?_
    refine g_iload_n F 2 rfl rfl dX6_over_23 ?_
    refine g_i2l F ⟨by omega, by omega⟩ dX6_over_24 ?_
    refine g_put F iX1 tyX1 tyX1_ok nmX1 1 rfl rfl 2 (by decide) (List.mem_of_getElem? (i := 3) rfl) rfl rfl rfl (Nat.le_of_ble_eq_true rfl) (wC cA x (x_pa) (x_ba) (x_sa) (x_qa) (h 0) (x_so) ++ wH cA h (h_pl) (h_pr) (v) (h_qb)) rfl dX6_over_25 ?_
    refine g_iload_n F 0 rfl rfl dX6_over_28 ?_
    exact g_zret F rfl rfl (by decide) (by decide) ⟨congrArg (fun z => some (iv z)) (show (h_pb : Int) = if 1 ≤ v ∧ v ≤ 1000000 then h_pb else -2000000001 by (try simp only [Int.toNat_natCast]); first | (rw [if_neg (by omega)]; done) | (rw [if_pos (by omega)]; done)), (by (try simp only [Int.toNat_natCast]); first | (rw [if_neg (by omega)]; done) | (rw [if_pos (by omega)]; done))⟩ dX6_over_29
  · skip
    refine g_ldc F (-2000000001) (by decide) (List.mem_of_getElem? (i := 1) rfl) dX6_over_7 ?_
    exact g_zret F rfl rfl (by decide) (by decide) ⟨congrArg (fun z => some (iv z)) (show (-2000000001 : Int) = if 1 ≤ v ∧ v ≤ 1000000 then h_pb else -2000000001 by (try simp only [Int.toNat_natCast]); first | (rw [if_neg (by omega)]; done) | (rw [if_pos (by omega)]; done)), (by (try simp only [Int.toNat_natCast]); first | (rw [if_neg (by omega)]; done) | (rw [if_pos (by omega)]; done))⟩ dX6_over_9

set_option maxHeartbeats 4000000 in
set_option maxRecDepth 100000 in
theorem kX6_pricesOver (l : Launch) (D : va_G) (cA : Nat → ClassId) (x : Nat → Nat) (x_pa : Nat) (x_ba : Nat) (x_sa : Nat) (x_qa : Nat) (x_so : Int) (h : Nat → Nat) (h_pl : Nat → Int) (h_pr : Nat → Int) (h_pb : Int) (h_qb : Int) (v : Int) (hv : -2147483648 ≤ v ∧ v ≤ 2147483647) : CT l yX6_pricesOver wsX6_pricesOver ({ frames := 1, cells := 0, slots := 0, locals := 20 }) D cA [.ref (x 0), iv (v)] (wC cA x (x_pa) (x_ba) (x_sa) (x_qa) (h 0) (x_so) ++ wH cA h (h_pl) (h_pr) (h_pb) (h_qb)) (fun ov ow => ov = some (iv (if 1 ≤ v ∧ v ≤ 1000000 then h_qb else -2000000001)) ∧ ow = wC cA x x_pa x_ba x_sa x_qa (h 0) x_so ++ (if 1 ≤ v ∧ v ≤ 1000000 then wH cA h h_pl h_pr h_pb v else wH cA h h_pl h_pr h_pb h_qb)) 0 0 := by
  refine CT.mk (cc := cX6_pricesOver) (maxL := 3) (ret := (some .int)) (by decide +kernel) rfl (Nat.le_of_ble_eq_true rfl) ?_
  intro p_ e_ s_ m_ b_ me_ c_ A F hnm hA
  have hV := @IM_P D s_ A
  have iX6 : ∀ w ∈ u_ws RX6 TX6 6, w ∈ wsX6_pricesOver := by decide +kernel
  have iX1 : ∀ w ∈ u_ws RX1 TX1 4, w ∈ wsX6_pricesOver := by decide +kernel
  refine g_lsub ([(0, .ref (x 0)), (1, iv (v))]) [0, 1] rfl ?_
  refine g_iload_n F 1 rfl rfl dX6_pricesOver_0 ?_
  refine g_callRS F hV (As := [iv (v)]) (rest := []) (kX6_isBelow l D cA v (by omega)) (va_cwS 1 F.2.2.2.2.1 gX6_pricesOver_X6_isBelow rfl rfl rfl (by decide +kernel) ⟨Nat.le_of_ble_eq_true rfl, Nat.le_of_ble_eq_true rfl⟩) [] rfl rfl rfl (Nat.le_of_ble_eq_true rfl) ⟨Nat.le_of_ble_eq_true rfl, Nat.le_of_ble_eq_true rfl⟩ dX6_pricesOver_1 (fun v hv => ?_)
  subst hv
  refine g_eq (st' := [iv (if 1 ≤ v ∧ v ≤ 1000000 then 1 else 0)]) rfl rfl rfl ?_
  refine g_ifb_ne F (tgt := 10) dX6_pricesOver_4 (by decide) (fun c_1 => ?_) (fun c_1 => ?_)
  · skip
    refine g_aload_n F 0 rfl rfl dX6_pricesOver_10 ?_
    refine g_get F hV iX6 0 rfl rfl 4 (by decide) (List.mem_of_getElem? (i := 2) rfl) rfl dX6_pricesOver_11 ?_
    refine g_get F hV iX1 1 rfl rfl 3 (by decide) (List.mem_of_getElem? (i := 3) rfl) rfl dX6_pricesOver_14 ?_
    refine g_istore_n F ([(2, iv (h_qb)), (0, .ref (x 0)), (1, iv (v))]) rfl rfl (by decide) dX6_pricesOver_17 ?_
    refine g_aload_n F 1 rfl rfl dX6_pricesOver_18 ?_
    refine g_get F hV iX6 0 rfl rfl 4 (by decide) (List.mem_of_getElem? (i := 2) rfl) rfl dX6_pricesOver_19 ?_
    refine g_iload_n F 2 rfl rfl dX6_pricesOver_22 ?_
    refine g_put F iX1 tyX1 tyX1_ok nmX1 1 rfl rfl 3 (by decide) (List.mem_of_getElem? (i := 3) rfl) rfl rfl rfl (Nat.le_of_ble_eq_true rfl) (wC cA x (x_pa) (x_ba) (x_sa) (x_qa) (h 0) (x_so) ++ wH cA h (h_pl) (h_pr) (h_pb) (v)) rfl dX6_pricesOver_23 ?_
    refine g_iload_n F 0 rfl rfl dX6_pricesOver_26 ?_
    exact g_zret F rfl rfl (by decide) (by decide) ⟨congrArg (fun z => some (iv z)) (show (h_qb : Int) = if 1 ≤ v ∧ v ≤ 1000000 then h_qb else -2000000001 by (try simp only [Int.toNat_natCast]); first | (rw [if_neg (by omega)]; done) | (rw [if_pos (by omega)]; done)), (by (try simp only [Int.toNat_natCast]); first | (rw [if_neg (by omega)]; done) | (rw [if_pos (by omega)]; done))⟩ dX6_pricesOver_27
  · skip
    refine g_ldc F (-2000000001) (by decide) (List.mem_of_getElem? (i := 1) rfl) dX6_pricesOver_7 ?_
    exact g_zret F rfl rfl (by decide) (by decide) ⟨congrArg (fun z => some (iv z)) (show (-2000000001 : Int) = if 1 ≤ v ∧ v ≤ 1000000 then h_qb else -2000000001 by (try simp only [Int.toNat_natCast]); first | (rw [if_neg (by omega)]; done) | (rw [if_pos (by omega)]; done)), (by (try simp only [Int.toNat_natCast]); first | (rw [if_neg (by omega)]; done) | (rw [if_pos (by omega)]; done))⟩ dX6_pricesOver_9
