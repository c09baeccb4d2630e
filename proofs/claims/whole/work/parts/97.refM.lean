set_option maxHeartbeats 4000000 in
set_option maxRecDepth 100000 in
theorem kX7_put (l : Launch) (D : va_G) (cA : Nat → ClassId) (m : Nat → Nat) (m_nc : Nat) (m_nr : Nat) (m_ke : Int) (m_so : Int) (m_bu : Int) (m_bc : Int) (m_pu : Int) (m_qu : Int) (m_fs : Int) (m_cd : Int) (m_un : Int) (m_hb : Int) (m_pf : Int) (m_ef : Int) (m_pl : Nat → Int) (m_pr : Nat → Int) (c : Int) (v : Int) (hc : -2147483648 ≤ c ∧ c ≤ 2147483647) (hv : -2147483648 ≤ v ∧ v ≤ 2147483647) : CT l yX7_put wsX7_put ({ frames := 1, cells := 0, slots := 0, locals := 22 }) D cA [.ref (m 0), iv (c), iv (v)] (wMO cA m (((m_nc : Nat) : Int)) (((m_nr : Nat) : Int)) (m_ke) (m_so) (m_bu) (m_bc) (m_pu) (m_qu) (m_fs) (m_cd) (m_un) (m_hb) (m_pf) (m_ef) ++ wMH cA m (m_pl) (m_pr)) (fun ov ow => ov = some (iv (if (0 ≤ c ∧ c < 5) ∧ -1000000000 ≤ v ∧ v ≤ 1000000000 then 0 else -2000000001)) ∧ ow = if (0 ≤ c ∧ c < 5) ∧ -1000000000 ≤ v ∧ v ≤ 1000000000 then wMO cA m (((m_nc : Nat) : Int)) (((m_nr : Nat) : Int)) (m_ke) (m_so) (m_bu) (m_bc) (m_pu) (m_qu) (m_fs) (m_cd) (m_un) (m_hb) (m_pf) (m_ef) ++ wMH cA m (va_up m_pl c.toNat v) (m_pr) else wMO cA m (((m_nc : Nat) : Int)) (((m_nr : Nat) : Int)) (m_ke) (m_so) (m_bu) (m_bc) (m_pu) (m_qu) (m_fs) (m_cd) (m_un) (m_hb) (m_pf) (m_ef) ++ wMH cA m (m_pl) (m_pr)) 0 0 := by
  refine CT.mk (cc := cX7_put) (maxL := 3) (ret := (some .int)) (by decide +kernel) rfl (Nat.le_of_ble_eq_true rfl) ?_
  intro p_ e_ s_ m_ b_ me_ c_ A F hnm hA
  have hV := @IM_P D s_ A
  have iX7 : ∀ w ∈ u_ws RX7 TX7 38, w ∈ wsX7_put := by decide +kernel
  refine g_lsub ([(0, .ref (m 0)), (1, iv (c)), (2, iv (v))]) [0, 1, 2] rfl ?_
  refine g_iload_n F 1 rfl rfl dX7_put_0 ?_
  refine g_iconst F dX7_put_1 ?_
  refine g_iconst F dX7_put_2 ?_
  refine g_callRS F hV (As := [iv (c), iv (0), iv (4)]) (rest := []) (kX7_isIn l D cA c 0 4 (by omega) (by omega) (by omega)) (va_cwS 3 F.2.2.2.2.1 gX7_put_X7_isIn rfl rfl rfl (by decide +kernel) ⟨Nat.le_of_ble_eq_true rfl, Nat.le_of_ble_eq_true rfl⟩) [] rfl rfl rfl (Nat.le_of_ble_eq_true rfl) ⟨Nat.le_of_ble_eq_true rfl, Nat.le_of_ble_eq_true rfl⟩ dX7_put_3 (fun v hv => ?_)
  subst hv
  refine g_eq (st' := [iv (if 0 ≤ c ∧ c ≤ 4 then 1 else 0)]) rfl rfl rfl ?_
  refine g_ifb_eq F (tgt := 20) dX7_put_6 (by decide) (fun c_1 => ?_) (fun c_1 => ?_)
  · skip
    refine g_ldc F (-2000000001) (by decide) (List.mem_of_getElem? (i := 3) rfl) dX7_put_20 ?_
    exact g_zret F rfl rfl (by decide) (by decide) ⟨congrArg (fun z => some (iv z)) (show (-2000000001 : Int) = if (0 ≤ c ∧ c < 5) ∧ -1000000000 ≤ v ∧ v ≤ 1000000000 then 0 else -2000000001 by (try simp only [Int.toNat_natCast]); first | (rw [if_neg (by omega)]; done) | (rw [if_pos (by omega)]; done)), (by (try simp only [Int.toNat_natCast]); first | (rw [if_neg (by omega)]; done) | (rw [if_pos (by omega)]; done))⟩ dX7_put_22
  · skip
    obtain ⟨cn, hcn⟩ : ∃ y : Nat, c = (y : Int) := ⟨c.toNat, by omega⟩
    subst hcn
    refine g_iload_n F 2 rfl rfl dX7_put_9 ?_
    refine g_ldc F (-1000000000) (by decide) (List.mem_of_getElem? (i := 1) rfl) dX7_put_10 ?_
    refine g_ldc F (1000000000) (by decide) (List.mem_of_getElem? (i := 2) rfl) dX7_put_12 ?_
    refine g_callRS F hV (As := [iv (v), iv (-1000000000), iv (1000000000)]) (rest := []) (kX7_isIn l D cA v (-1000000000) 1000000000 (by omega) (by omega) (by omega)) (va_cwS 3 F.2.2.2.2.1 gX7_put_X7_isIn rfl rfl rfl (by decide +kernel) ⟨Nat.le_of_ble_eq_true rfl, Nat.le_of_ble_eq_true rfl⟩) [] rfl rfl rfl (Nat.le_of_ble_eq_true rfl) ⟨Nat.le_of_ble_eq_true rfl, Nat.le_of_ble_eq_true rfl⟩ dX7_put_14 (fun v hv => ?_)
    subst hv
    refine g_eq (st' := [iv (if (-1000000000) ≤ v ∧ v ≤ 1000000000 then 1 else 0)]) rfl rfl rfl ?_
    refine g_ifb_ne F (tgt := 23) dX7_put_17 (by decide) (fun c_2 => ?_) (fun c_2 => ?_)
    · skip
      refine g_aload_n F 0 rfl rfl dX7_put_23 ?_
      refine g_get F hV iX7 0 rfl rfl 16 (by decide) (List.mem_of_getElem? (i := 4) rfl) rfl dX7_put_24 ?_
      refine g_iload_n F 1 rfl rfl dX7_put_27 ?_
      refine g_iload_n F 2 rfl rfl dX7_put_28 ?_
      refine g_i2l F ⟨by omega, by omega⟩ dX7_put_29 ?_
      refine g_last F 1 rfl (cn) (by omega) (by omega) (by decide) (wMO cA m (((m_nc : Nat) : Int)) (((m_nr : Nat) : Int)) (m_ke) (m_so) (m_bu) (m_bc) (m_pu) (m_qu) (m_fs) (m_cd) (m_un) (m_hb) (m_pf) (m_ef) ++ wMH cA m (va_up m_pl cn v) (m_pr)) rfl dX7_put_30 ?_
      refine g_iconst F dX7_put_31 ?_
      exact g_zret F rfl rfl (by decide) (by decide) ⟨congrArg (fun z => some (iv z)) (show (0 : Int) = if (0 ≤ ((cn : Nat) : Int) ∧ ((cn : Nat) : Int) < 5) ∧ -1000000000 ≤ v ∧ v ≤ 1000000000 then 0 else -2000000001 by (try simp only [Int.toNat_natCast]); first | (rw [if_neg (by omega)]; done) | (rw [if_pos (by omega)]; done)), (by (try simp only [Int.toNat_natCast]); first | (rw [if_neg (by omega)]; done) | (rw [if_pos (by omega)]; done))⟩ dX7_put_32
    · skip
      refine g_ldc F (-2000000001) (by decide) (List.mem_of_getElem? (i := 3) rfl) dX7_put_20 ?_
      exact g_zret F rfl rfl (by decide) (by decide) ⟨congrArg (fun z => some (iv z)) (show (-2000000001 : Int) = if (0 ≤ ((cn : Nat) : Int) ∧ ((cn : Nat) : Int) < 5) ∧ -1000000000 ≤ v ∧ v ≤ 1000000000 then 0 else -2000000001 by (try simp only [Int.toNat_natCast]); first | (rw [if_neg (by omega)]; done) | (rw [if_pos (by omega)]; done)), (by (try simp only [Int.toNat_natCast]); first | (rw [if_neg (by omega)]; done) | (rw [if_pos (by omega)]; done))⟩ dX7_put_22

set_option maxHeartbeats 4000000 in
set_option maxRecDepth 100000 in
theorem kX7_price (l : Launch) (D : va_G) (cA : Nat → ClassId) (m : Nat → Nat) (m_nc : Nat) (m_nr : Nat) (m_ke : Int) (m_so : Int) (m_bu : Int) (m_bc : Int) (m_pu : Int) (m_qu : Int) (m_fs : Int) (m_cd : Int) (m_un : Int) (m_hb : Int) (m_pf : Int) (m_ef : Int) (m_pl : Nat → Int) (m_pr : Nat → Int) (c : Int) (v : Int) (hc : -2147483648 ≤ c ∧ c ≤ 2147483647) (hv : -2147483648 ≤ v ∧ v ≤ 2147483647) : CT l yX7_price wsX7_price ({ frames := 1, cells := 0, slots := 0, locals := 22 }) D cA [.ref (m 0), iv (c), iv (v)] (wMO cA m (((m_nc : Nat) : Int)) (((m_nr : Nat) : Int)) (m_ke) (m_so) (m_bu) (m_bc) (m_pu) (m_qu) (m_fs) (m_cd) (m_un) (m_hb) (m_pf) (m_ef) ++ wMH cA m (m_pl) (m_pr)) (fun ov ow => ov = some (iv (if (0 ≤ c ∧ c < 7) ∧ -1000000 ≤ v ∧ v ≤ 1000000 then 0 else -2000000001)) ∧ ow = if (0 ≤ c ∧ c < 7) ∧ -1000000 ≤ v ∧ v ≤ 1000000 then wMO cA m (((m_nc : Nat) : Int)) (((m_nr : Nat) : Int)) (m_ke) (m_so) (m_bu) (m_bc) (m_pu) (m_qu) (m_fs) (m_cd) (m_un) (m_hb) (m_pf) (m_ef) ++ wMH cA m (m_pl) (va_up m_pr c.toNat v) else wMO cA m (((m_nc : Nat) : Int)) (((m_nr : Nat) : Int)) (m_ke) (m_so) (m_bu) (m_bc) (m_pu) (m_qu) (m_fs) (m_cd) (m_un) (m_hb) (m_pf) (m_ef) ++ wMH cA m (m_pl) (m_pr)) 0 0 := by
  refine CT.mk (cc := cX7_price) (maxL := 3) (ret := (some .int)) (by decide +kernel) rfl (Nat.le_of_ble_eq_true rfl) ?_
  intro p_ e_ s_ m_ b_ me_ c_ A F hnm hA
  have hV := @IM_P D s_ A
  have iX7 : ∀ w ∈ u_ws RX7 TX7 38, w ∈ wsX7_price := by decide +kernel
  refine g_lsub ([(0, .ref (m 0)), (1, iv (c)), (2, iv (v))]) [0, 1, 2] rfl ?_
  refine g_iload_n F 1 rfl rfl dX7_price_0 ?_
  refine g_iconst F dX7_price_1 ?_
  refine g_bipush F dX7_price_2 (by decide) ?_
  refine g_callRS F hV (As := [iv (c), iv (0), iv (6)]) (rest := []) (kX7_isIn l D cA c 0 6 (by omega) (by omega) (by omega)) (va_cwS 3 F.2.2.2.2.1 gX7_price_X7_isIn rfl rfl rfl (by decide +kernel) ⟨Nat.le_of_ble_eq_true rfl, Nat.le_of_ble_eq_true rfl⟩) [] rfl rfl rfl (Nat.le_of_ble_eq_true rfl) ⟨Nat.le_of_ble_eq_true rfl, Nat.le_of_ble_eq_true rfl⟩ dX7_price_4 (fun v hv => ?_)
  subst hv
  refine g_eq (st' := [iv (if 0 ≤ c ∧ c ≤ 6 then 1 else 0)]) rfl rfl rfl ?_
  refine g_ifb_eq F (tgt := 21) dX7_price_7 (by decide) (fun c_1 => ?_) (fun c_1 => ?_)
  · skip
    refine g_ldc F (-2000000001) (by decide) (List.mem_of_getElem? (i := 3) rfl) dX7_price_21 ?_
    exact g_zret F rfl rfl (by decide) (by decide) ⟨congrArg (fun z => some (iv z)) (show (-2000000001 : Int) = if (0 ≤ c ∧ c < 7) ∧ -1000000 ≤ v ∧ v ≤ 1000000 then 0 else -2000000001 by (try simp only [Int.toNat_natCast]); first | (rw [if_neg (by omega)]; done) | (rw [if_pos (by omega)]; done)), (by (try simp only [Int.toNat_natCast]); first | (rw [if_neg (by omega)]; done) | (rw [if_pos (by omega)]; done))⟩ dX7_price_23
  · skip
    obtain ⟨cn, hcn⟩ : ∃ y : Nat, c = (y : Int) := ⟨c.toNat, by omega⟩
    subst hcn
    refine g_iload_n F 2 rfl rfl dX7_price_10 ?_
    refine g_ldc F (-1000000) (by decide) (List.mem_of_getElem? (i := 1) rfl) dX7_price_11 ?_
    refine g_ldc F (1000000) (by decide) (List.mem_of_getElem? (i := 2) rfl) dX7_price_13 ?_
    refine g_callRS F hV (As := [iv (v), iv (-1000000), iv (1000000)]) (rest := []) (kX7_isIn l D cA v (-1000000) 1000000 (by omega) (by omega) (by omega)) (va_cwS 3 F.2.2.2.2.1 gX7_price_X7_isIn rfl rfl rfl (by decide +kernel) ⟨Nat.le_of_ble_eq_true rfl, Nat.le_of_ble_eq_true rfl⟩) [] rfl rfl rfl (Nat.le_of_ble_eq_true rfl) ⟨Nat.le_of_ble_eq_true rfl, Nat.le_of_ble_eq_true rfl⟩ dX7_price_15 (fun v hv => ?_)
    subst hv
    refine g_eq (st' := [iv (if (-1000000) ≤ v ∧ v ≤ 1000000 then 1 else 0)]) rfl rfl rfl ?_
    refine g_ifb_ne F (tgt := 24) dX7_price_18 (by decide) (fun c_2 => ?_) (fun c_2 => ?_)
    · skip
      refine g_aload_n F 0 rfl rfl dX7_price_24 ?_
      refine g_get F hV iX7 0 rfl rfl 18 (by decide) (List.mem_of_getElem? (i := 4) rfl) rfl dX7_price_25 ?_
      refine g_iload_n F 1 rfl rfl dX7_price_28 ?_
      refine g_iload_n F 2 rfl rfl dX7_price_29 ?_
      refine g_i2l F ⟨by omega, by omega⟩ dX7_price_30 ?_
      refine g_last F 2 rfl (cn) (by omega) (by omega) (by decide) (wMO cA m (((m_nc : Nat) : Int)) (((m_nr : Nat) : Int)) (m_ke) (m_so) (m_bu) (m_bc) (m_pu) (m_qu) (m_fs) (m_cd) (m_un) (m_hb) (m_pf) (m_ef) ++ wMH cA m (m_pl) (va_up m_pr cn v)) rfl dX7_price_31 ?_
      refine g_iconst F dX7_price_32 ?_
      exact g_zret F rfl rfl (by decide) (by decide) ⟨congrArg (fun z => some (iv z)) (show (0 : Int) = if (0 ≤ ((cn : Nat) : Int) ∧ ((cn : Nat) : Int) < 7) ∧ -1000000 ≤ v ∧ v ≤ 1000000 then 0 else -2000000001 by (try simp only [Int.toNat_natCast]); first | (rw [if_neg (by omega)]; done) | (rw [if_pos (by omega)]; done)), (by (try simp only [Int.toNat_natCast]); first | (rw [if_neg (by omega)]; done) | (rw [if_pos (by omega)]; done))⟩ dX7_price_33
    · skip
      refine g_ldc F (-2000000001) (by decide) (List.mem_of_getElem? (i := 3) rfl) dX7_price_21 ?_
      exact g_zret F rfl rfl (by decide) (by decide) ⟨congrArg (fun z => some (iv z)) (show (-2000000001 : Int) = if (0 ≤ ((cn : Nat) : Int) ∧ ((cn : Nat) : Int) < 7) ∧ -1000000 ≤ v ∧ v ≤ 1000000 then 0 else -2000000001 by (try simp only [Int.toNat_natCast]); first | (rw [if_neg (by omega)]; done) | (rw [if_pos (by omega)]; done)), (by (try simp only [Int.toNat_natCast]); first | (rw [if_neg (by omega)]; done) | (rw [if_pos (by omega)]; done))⟩ dX7_price_23

set_option maxHeartbeats 4000000 in
set_option maxRecDepth 100000 in
theorem kX7_over (l : Launch) (D : va_G) (cA : Nat → ClassId) (m : Nat → Nat) (m_nc : Nat) (m_nr : Nat) (m_ke : Int) (m_so : Int) (m_bu : Int) (m_bc : Int) (m_pu : Int) (m_qu : Int) (m_fs : Int) (m_cd : Int) (m_un : Int) (m_hb : Int) (m_pf : Int) (m_ef : Int) (v : Int) (hv : -2147483648 ≤ v ∧ v ≤ 2147483647) : CT l yX7_over wsX7_over ({ frames := 1, cells := 0, slots := 0, locals := 22 }) D cA [.ref (m 0), iv (v)] (wMO cA m (((m_nc : Nat) : Int)) (((m_nr : Nat) : Int)) (m_ke) (m_so) (m_bu) (m_bc) (m_pu) (m_qu) (m_fs) (m_cd) (m_un) (m_hb) (m_pf) (m_ef)) (fun ov ow => ov = some (iv (if 1 ≤ v ∧ v ≤ 1000000 then m_pu else -2000000001)) ∧ ow = if 1 ≤ v ∧ v ≤ 1000000 then wMO cA m (((m_nc : Nat) : Int)) (((m_nr : Nat) : Int)) (m_ke) (m_so) (m_bu) (m_bc) (v) (m_qu) (m_fs) (m_cd) (m_un) (m_hb) (m_pf) (m_ef) else wMO cA m (((m_nc : Nat) : Int)) (((m_nr : Nat) : Int)) (m_ke) (m_so) (m_bu) (m_bc) (m_pu) (m_qu) (m_fs) (m_cd) (m_un) (m_hb) (m_pf) (m_ef)) 0 0 := by
  refine CT.mk (cc := cX7_over) (maxL := 4) (ret := (some .int)) (by decide +kernel) rfl (Nat.le_of_ble_eq_true rfl) ?_
  intro p_ e_ s_ m_ b_ me_ c_ A F hnm hA
  have hV := @IM_P D s_ A
  have iX7 : ∀ w ∈ u_ws RX7 TX7 38, w ∈ wsX7_over := by decide +kernel
  refine g_lsub ([(0, .ref (m 0)), (1, iv (v))]) [0, 1] rfl ?_
  refine g_iload_n F 1 rfl rfl dX7_over_0 ?_
  refine g_iconst F dX7_over_1 ?_
  refine g_ldc F (1000000) (by decide) (List.mem_of_getElem? (i := 1) rfl) dX7_over_2 ?_
  refine g_callRS F hV (As := [iv (v), iv (1), iv (1000000)]) (rest := []) (kX7_isIn l D cA v 1 1000000 (by omega) (by omega) (by omega)) (va_cwS 3 F.2.2.2.2.1 gX7_over_X7_isIn rfl rfl rfl (by decide +kernel) ⟨Nat.le_of_ble_eq_true rfl, Nat.le_of_ble_eq_true rfl⟩) [] rfl rfl rfl (Nat.le_of_ble_eq_true rfl) ⟨Nat.le_of_ble_eq_true rfl, Nat.le_of_ble_eq_true rfl⟩ dX7_over_4 (fun v hv => ?_)
  subst hv
  refine g_eq (st' := [iv (if 1 ≤ v ∧ v ≤ 1000000 then 1 else 0)]) rfl rfl rfl ?_
  refine g_ifb_ne F (tgt := 13) dX7_over_7 (by decide) (fun c_1 => ?_) (fun c_1 => ?_)
  · skip
    refine g_aload_n F 0 rfl rfl dX7_over_13 ?_
    refine g_get F hV iX7 0 rfl rfl 17 (by decide) (List.mem_of_getElem? (i := 3) rfl) rfl dX7_over_14 ?_
    refine g_lstore_n F ([(2, jv (m_pu)), (0, .ref (m 0)), (1, iv (v))]) rfl rfl (by decide) dX7_over_17 ?_
    refine g_aload_n F 1 rfl rfl dX7_over_18 ?_
    refine g_iload_n F 2 rfl rfl dX7_over_19 ?_
    refine g_i2l F ⟨by omega, by omega⟩ dX7_over_20 ?_
    refine g_put F iX7 tyX7 tyX7_ok nmX7 0 rfl rfl 17 (by decide) (List.mem_of_getElem? (i := 3) rfl) rfl rfl rfl (Nat.le_of_ble_eq_true rfl) (wMO cA m (((m_nc : Nat) : Int)) (((m_nr : Nat) : Int)) (m_ke) (m_so) (m_bu) (m_bc) (v) (m_qu) (m_fs) (m_cd) (m_un) (m_hb) (m_pf) (m_ef)) rfl dX7_over_21 ?_
    refine g_lload_n F 0 rfl rfl dX7_over_24 ?_
    refine g_l2i F dX7_over_25 ?_
    exact g_zret F rfl rfl (by decide) (by decide) ⟨congrArg (fun z => some (iv z)) (show (m_pu : Int) = if 1 ≤ v ∧ v ≤ 1000000 then m_pu else -2000000001 by (try simp only [Int.toNat_natCast]); first | (rw [if_neg (by omega)]; done) | (rw [if_pos (by omega)]; done)), (by (try simp only [Int.toNat_natCast]); first | (rw [if_neg (by omega)]; done) | (rw [if_pos (by omega)]; done))⟩ dX7_over_26
  · skip
    refine g_ldc F (-2000000001) (by decide) (List.mem_of_getElem? (i := 2) rfl) dX7_over_10 ?_
    exact g_zret F rfl rfl (by decide) (by decide) ⟨congrArg (fun z => some (iv z)) (show (-2000000001 : Int) = if 1 ≤ v ∧ v ≤ 1000000 then m_pu else -2000000001 by (try simp only [Int.toNat_natCast]); first | (rw [if_neg (by omega)]; done) | (rw [if_pos (by omega)]; done)), (by (try simp only [Int.toNat_natCast]); first | (rw [if_neg (by omega)]; done) | (rw [if_pos (by omega)]; done))⟩ dX7_over_12

set_option maxHeartbeats 4000000 in
set_option maxRecDepth 100000 in
theorem kX7_pricesOver (l : Launch) (D : va_G) (cA : Nat → ClassId) (m : Nat → Nat) (m_nc : Nat) (m_nr : Nat) (m_ke : Int) (m_so : Int) (m_bu : Int) (m_bc : Int) (m_pu : Int) (m_qu : Int) (m_fs : Int) (m_cd : Int) (m_un : Int) (m_hb : Int) (m_pf : Int) (m_ef : Int) (v : Int) (hv : -2147483648 ≤ v ∧ v ≤ 2147483647) : CT l yX7_pricesOver wsX7_pricesOver ({ frames := 1, cells := 0, slots := 0, locals := 22 }) D cA [.ref (m 0), iv (v)] (wMO cA m (((m_nc : Nat) : Int)) (((m_nr : Nat) : Int)) (m_ke) (m_so) (m_bu) (m_bc) (m_pu) (m_qu) (m_fs) (m_cd) (m_un) (m_hb) (m_pf) (m_ef)) (fun ov ow => ov = some (iv (if 1 ≤ v ∧ v ≤ 1000000 then m_qu else -2000000001)) ∧ ow = if 1 ≤ v ∧ v ≤ 1000000 then wMO cA m (((m_nc : Nat) : Int)) (((m_nr : Nat) : Int)) (m_ke) (m_so) (m_bu) (m_bc) (m_pu) (v) (m_fs) (m_cd) (m_un) (m_hb) (m_pf) (m_ef) else wMO cA m (((m_nc : Nat) : Int)) (((m_nr : Nat) : Int)) (m_ke) (m_so) (m_bu) (m_bc) (m_pu) (m_qu) (m_fs) (m_cd) (m_un) (m_hb) (m_pf) (m_ef)) 0 0 := by
  refine CT.mk (cc := cX7_pricesOver) (maxL := 4) (ret := (some .int)) (by decide +kernel) rfl (Nat.le_of_ble_eq_true rfl) ?_
  intro p_ e_ s_ m_ b_ me_ c_ A F hnm hA
  have hV := @IM_P D s_ A
  have iX7 : ∀ w ∈ u_ws RX7 TX7 38, w ∈ wsX7_pricesOver := by decide +kernel
  refine g_lsub ([(0, .ref (m 0)), (1, iv (v))]) [0, 1] rfl ?_
  refine g_iload_n F 1 rfl rfl dX7_pricesOver_0 ?_
  refine g_iconst F dX7_pricesOver_1 ?_
  refine g_ldc F (1000000) (by decide) (List.mem_of_getElem? (i := 1) rfl) dX7_pricesOver_2 ?_
  refine g_callRS F hV (As := [iv (v), iv (1), iv (1000000)]) (rest := []) (kX7_isIn l D cA v 1 1000000 (by omega) (by omega) (by omega)) (va_cwS 3 F.2.2.2.2.1 gX7_pricesOver_X7_isIn rfl rfl rfl (by decide +kernel) ⟨Nat.le_of_ble_eq_true rfl, Nat.le_of_ble_eq_true rfl⟩) [] rfl rfl rfl (Nat.le_of_ble_eq_true rfl) ⟨Nat.le_of_ble_eq_true rfl, Nat.le_of_ble_eq_true rfl⟩ dX7_pricesOver_4 (fun v hv => ?_)
  subst hv
  refine g_eq (st' := [iv (if 1 ≤ v ∧ v ≤ 1000000 then 1 else 0)]) rfl rfl rfl ?_
  refine g_ifb_ne F (tgt := 13) dX7_pricesOver_7 (by decide) (fun c_1 => ?_) (fun c_1 => ?_)
  · skip
    refine g_aload_n F 0 rfl rfl dX7_pricesOver_13 ?_
    refine g_get F hV iX7 0 rfl rfl 19 (by decide) (List.mem_of_getElem? (i := 3) rfl) rfl dX7_pricesOver_14 ?_
    refine g_lstore_n F ([(2, jv (m_qu)), (0, .ref (m 0)), (1, iv (v))]) rfl rfl (by decide) dX7_pricesOver_17 ?_
    refine g_aload_n F 1 rfl rfl dX7_pricesOver_18 ?_
    refine g_iload_n F 2 rfl rfl dX7_pricesOver_19 ?_
    refine g_i2l F ⟨by omega, by omega⟩ dX7_pricesOver_20 ?_
    refine g_put F iX7 tyX7 tyX7_ok nmX7 0 rfl rfl 19 (by decide) (List.mem_of_getElem? (i := 3) rfl) rfl rfl rfl (Nat.le_of_ble_eq_true rfl) (wMO cA m (((m_nc : Nat) : Int)) (((m_nr : Nat) : Int)) (m_ke) (m_so) (m_bu) (m_bc) (m_pu) (v) (m_fs) (m_cd) (m_un) (m_hb) (m_pf) (m_ef)) rfl dX7_pricesOver_21 ?_
    refine g_lload_n F 0 rfl rfl dX7_pricesOver_24 ?_
    refine g_l2i F dX7_pricesOver_25 ?_
    exact g_zret F rfl rfl (by decide) (by decide) ⟨congrArg (fun z => some (iv z)) (show (m_qu : Int) = if 1 ≤ v ∧ v ≤ 1000000 then m_qu else -2000000001 by (try simp only [Int.toNat_natCast]); first | (rw [if_neg (by omega)]; done) | (rw [if_pos (by omega)]; done)), (by (try simp only [Int.toNat_natCast]); first | (rw [if_neg (by omega)]; done) | (rw [if_pos (by omega)]; done))⟩ dX7_pricesOver_26
  · skip
    refine g_ldc F (-2000000001) (by decide) (List.mem_of_getElem? (i := 2) rfl) dX7_pricesOver_10 ?_
    exact g_zret F rfl rfl (by decide) (by decide) ⟨congrArg (fun z => some (iv z)) (show (-2000000001 : Int) = if 1 ≤ v ∧ v ≤ 1000000 then m_qu else -2000000001 by (try simp only [Int.toNat_natCast]); first | (rw [if_neg (by omega)]; done) | (rw [if_pos (by omega)]; done)), (by (try simp only [Int.toNat_natCast]); first | (rw [if_neg (by omega)]; done) | (rw [if_pos (by omega)]; done))⟩ dX7_pricesOver_12

set_option maxHeartbeats 4000000 in
set_option maxRecDepth 100000 in
theorem kX7_isLow (l : Launch) (D : va_G) (cA : Nat → ClassId) (m : Nat → Nat) (m_nc : Nat) (m_nr : Nat) (m_ke : Int) (m_so : Int) (m_bu : Int) (m_bc : Int) (m_pu : Int) (m_qu : Int) (m_fs : Int) (m_cd : Int) (m_un : Int) (m_hb : Int) (m_pf : Int) (m_ef : Int) (m_kd : Nat → Int) (m_lo : Nat → Int) (m_hi : Nat → Int) (m_co : Nat → Int) (m_pa : Nat → Int) (m_rk : Nat → Int) (m_nu : Nat → Int) (m_ct : Nat → Int) (m_sa : Nat → Int) (m_pl : Nat → Int) (m_pr : Nat → Int) (c : Nat) (hc : c < 5) (hpl : ∀ j, -200000000000 ≤ m_pl j ∧ m_pl j ≤ 200000000000) (hpb : 0 < m_pu ∧ m_pu ≤ 8000000) (qlo : ∀ j, -20 ≤ m_lo j ∧ m_lo j ≤ 20) : CR l yX7_isLow wsX7_isLow ({ frames := 0, cells := 0, slots := 0, locals := 0 }) D cA [.ref (m 0), iv (((c : Nat) : Int))] (wMO cA m (((m_nc : Nat) : Int)) (((m_nr : Nat) : Int)) (m_ke) (m_so) (m_bu) (m_bc) (m_pu) (m_qu) (m_fs) (m_cd) (m_un) (m_hb) (m_pf) (m_ef) ++ wMP cA m (m_kd) (m_lo) (m_hi) (m_co) (m_pa) (m_rk) (m_nu) (m_ct) (m_sa) ++ wMH cA m (m_pl) (m_pr)) (fun ov => ov = some (iv (if m_pl c = m_lo c * m_pu then 1 else 0))) := by
  refine CR.mk (cc := cX7_isLow) (maxL := 2) (ret := (some .boolean)) (by decide +kernel) rfl (Nat.le_of_ble_eq_true rfl) ?_
  intro p_ e_ s_ m_ b_ me_ c_ F
  have hV := @IR_P D s_
  have iX7 : ∀ w ∈ u_ws RX7 TX7 38, w ∈ wsX7_isLow := by decide +kernel
  refine g_lsub ([(0, .ref (m 0)), (1, iv (((c : Nat) : Int)))]) [0, 1] rfl ?_
  refine g_aload_n F 0 rfl rfl dX7_isLow_0 ?_
  refine g_get F hV iX7 0 rfl rfl 16 (by decide) (List.mem_of_getElem? (i := 1) rfl) rfl dX7_isLow_1 ?_
  refine g_iload_n F 1 rfl rfl dX7_isLow_4 ?_
  have r_1 := hpl (c)
  refine g_lald F hV 10 rfl (c) (by omega) (by omega) (by decide) dX7_isLow_5 ?_
  refine g_aload_n F 0 rfl rfl dX7_isLow_6 ?_
  refine g_get F hV iX7 0 rfl rfl 2 (by decide) (List.mem_of_getElem? (i := 2) rfl) rfl dX7_isLow_7 ?_
  refine g_iload_n F 1 rfl rfl dX7_isLow_10 ?_
  have r_2 := qlo (c)
  refine g_iald F hV 2 rfl (c) (by omega) (by omega) (by decide) dX7_isLow_11 ?_
  refine g_i2l F ⟨by omega, by omega⟩ dX7_isLow_12 ?_
  refine g_aload_n F 0 rfl rfl dX7_isLow_13 ?_
  refine g_get F hV iX7 0 rfl rfl 17 (by decide) (List.mem_of_getElem? (i := 3) rfl) rfl dX7_isLow_14 ?_
  refine g_lmul F dX7_isLow_17 ?_
  refine g_lcmp_ne F (tgt := 26) dX7_isLow_18 dX7_isLow_19 (by decide) ⟨by omega, by omega⟩ (mul_64 (by omega) (by omega)) (fun c_3 => ?_) (fun c_3 => ?_)
  · skip
    refine g_iconst F dX7_isLow_26 ?_
    exact g_zretR F rfl (nar_01 (Or.inl rfl)) (congrArg (fun z => some (iv z)) (show (0 : Int) = if m_pl c = m_lo c * m_pu then 1 else 0 by first | rfl | (rw [if_neg (by omega)]; done) | (rw [if_pos (by omega)]; done) | (exfalso; omega))) dX7_isLow_27
  · skip
    refine g_iconst F dX7_isLow_22 ?_
    refine g_goto F (tgt := 27) dX7_isLow_23 (by decide) ?_
    exact g_zretR F rfl (nar_01 (Or.inr rfl)) (congrArg (fun z => some (iv z)) (show (1 : Int) = if m_pl c = m_lo c * m_pu then 1 else 0 by first | rfl | (rw [if_neg (by omega)]; done) | (rw [if_pos (by omega)]; done) | (exfalso; omega))) dX7_isLow_27

set_option maxHeartbeats 4000000 in
set_option maxRecDepth 100000 in
theorem kX7_isHigh (l : Launch) (D : va_G) (cA : Nat → ClassId) (m : Nat → Nat) (m_nc : Nat) (m_nr : Nat) (m_ke : Int) (m_so : Int) (m_bu : Int) (m_bc : Int) (m_pu : Int) (m_qu : Int) (m_fs : Int) (m_cd : Int) (m_un : Int) (m_hb : Int) (m_pf : Int) (m_ef : Int) (m_kd : Nat → Int) (m_lo : Nat → Int) (m_hi : Nat → Int) (m_co : Nat → Int) (m_pa : Nat → Int) (m_rk : Nat → Int) (m_nu : Nat → Int) (m_ct : Nat → Int) (m_sa : Nat → Int) (m_pl : Nat → Int) (m_pr : Nat → Int) (c : Nat) (hc : c < 5) (hpl : ∀ j, -200000000000 ≤ m_pl j ∧ m_pl j ≤ 200000000000) (hpb : 0 < m_pu ∧ m_pu ≤ 8000000) (qhi : ∀ j, m_hi j = -2000000005 ∨ (-20 ≤ m_hi j ∧ m_hi j ≤ 20)) : CR l yX7_isHigh wsX7_isHigh ({ frames := 0, cells := 0, slots := 0, locals := 0 }) D cA [.ref (m 0), iv (((c : Nat) : Int))] (wMO cA m (((m_nc : Nat) : Int)) (((m_nr : Nat) : Int)) (m_ke) (m_so) (m_bu) (m_bc) (m_pu) (m_qu) (m_fs) (m_cd) (m_un) (m_hb) (m_pf) (m_ef) ++ wMP cA m (m_kd) (m_lo) (m_hi) (m_co) (m_pa) (m_rk) (m_nu) (m_ct) (m_sa) ++ wMH cA m (m_pl) (m_pr)) (fun ov => ov = some (iv (if ¬ m_hi c = -2000000005 ∧ m_pl c = m_hi c * m_pu then 1 else 0))) := by
  refine CR.mk (cc := cX7_isHigh) (maxL := 2) (ret := (some .boolean)) (by decide +kernel) rfl (Nat.le_of_ble_eq_true rfl) ?_
  intro p_ e_ s_ m_ b_ me_ c_ F
  have hV := @IR_P D s_
  have iX7 : ∀ w ∈ u_ws RX7 TX7 38, w ∈ wsX7_isHigh := by decide +kernel
  refine g_lsub ([(0, .ref (m 0)), (1, iv (((c : Nat) : Int)))]) [0, 1] rfl ?_
  refine g_aload_n F 0 rfl rfl dX7_isHigh_0 ?_
  refine g_get F hV iX7 0 rfl rfl 3 (by decide) (List.mem_of_getElem? (i := 1) rfl) rfl dX7_isHigh_1 ?_
  refine g_iload_n F 1 rfl rfl dX7_isHigh_4 ?_
  have r_1 := qhi (c)
  refine g_iald F hV 3 rfl (c) (by omega) (by omega) (by decide) dX7_isHigh_5 ?_
  refine g_ldc F (-2000000005) (by decide) (List.mem_of_getElem? (i := 2) rfl) dX7_isHigh_6 ?_
  refine g_icmp_eq F (tgt := 37) dX7_isHigh_8 (by decide) ⟨by omega, by omega⟩ ⟨by decide, by decide⟩ (fun c_2 => ?_) (fun c_2 => ?_)
  · skip
    refine g_iconst F dX7_isHigh_37 ?_
    exact g_zretR F rfl (nar_01 (Or.inl rfl)) (congrArg (fun z => some (iv z)) (show (0 : Int) = if ¬ m_hi c = -2000000005 ∧ m_pl c = m_hi c * m_pu then 1 else 0 by first | rfl | (rw [if_neg (by omega)]; done) | (rw [if_pos (by omega)]; done) | (exfalso; omega))) dX7_isHigh_38
  · skip
    refine g_aload_n F 0 rfl rfl dX7_isHigh_11 ?_
    refine g_get F hV iX7 0 rfl rfl 16 (by decide) (List.mem_of_getElem? (i := 3) rfl) rfl dX7_isHigh_12 ?_
    refine g_iload_n F 1 rfl rfl dX7_isHigh_15 ?_
    have r_3 := hpl (c)
    refine g_lald F hV 10 rfl (c) (by omega) (by omega) (by decide) dX7_isHigh_16 ?_
    refine g_aload_n F 0 rfl rfl dX7_isHigh_17 ?_
    refine g_get F hV iX7 0 rfl rfl 3 (by decide) (List.mem_of_getElem? (i := 1) rfl) rfl dX7_isHigh_18 ?_
    refine g_iload_n F 1 rfl rfl dX7_isHigh_21 ?_
    have r_4 := qhi (c)
    refine g_iald F hV 3 rfl (c) (by omega) (by omega) (by decide) dX7_isHigh_22 ?_
    refine g_i2l F ⟨by omega, by omega⟩ dX7_isHigh_23 ?_
    refine g_aload_n F 0 rfl rfl dX7_isHigh_24 ?_
    refine g_get F hV iX7 0 rfl rfl 17 (by decide) (List.mem_of_getElem? (i := 4) rfl) rfl dX7_isHigh_25 ?_
    refine g_lmul F dX7_isHigh_28 ?_
    refine g_lcmp_ne F (tgt := 37) dX7_isHigh_29 dX7_isHigh_30 (by decide) ⟨by omega, by omega⟩ (mul_64 (by omega) (by omega)) (fun c_5 => ?_) (fun c_5 => ?_)
    · skip
      refine g_iconst F dX7_isHigh_37 ?_
      exact g_zretR F rfl (nar_01 (Or.inl rfl)) (congrArg (fun z => some (iv z)) (show (0 : Int) = if ¬ m_hi c = -2000000005 ∧ m_pl c = m_hi c * m_pu then 1 else 0 by first | rfl | (rw [if_neg (by omega)]; done) | (rw [if_pos (by omega)]; done) | (exfalso; omega))) dX7_isHigh_38
    · skip
      refine g_iconst F dX7_isHigh_33 ?_
      refine g_goto F (tgt := 38) dX7_isHigh_34 (by decide) ?_
      exact g_zretR F rfl (nar_01 (Or.inr rfl)) (congrArg (fun z => some (iv z)) (show (1 : Int) = if ¬ m_hi c = -2000000005 ∧ m_pl c = m_hi c * m_pu then 1 else 0 by first | rfl | (rw [if_neg (by omega)]; done) | (rw [if_pos (by omega)]; done) | (exfalso; omega))) dX7_isHigh_38

set_option maxHeartbeats 4000000 in
set_option maxRecDepth 100000 in
theorem kX7_isWithin (l : Launch) (D : va_G) (cA : Nat → ClassId) (m : Nat → Nat) (m_nc : Nat) (m_nr : Nat) (m_ke : Int) (m_so : Int) (m_bu : Int) (m_bc : Int) (m_pu : Int) (m_qu : Int) (m_fs : Int) (m_cd : Int) (m_un : Int) (m_hb : Int) (m_pf : Int) (m_ef : Int) (m_kd : Nat → Int) (m_lo : Nat → Int) (m_hi : Nat → Int) (m_co : Nat → Int) (m_pa : Nat → Int) (m_rk : Nat → Int) (m_nu : Nat → Int) (m_ct : Nat → Int) (m_sa : Nat → Int) (m_pl : Nat → Int) (m_pr : Nat → Int) (c : Nat) (hc : c < 5) (hpl : ∀ j, -200000000000 ≤ m_pl j ∧ m_pl j ≤ 200000000000) (hpb : 0 < m_pu ∧ m_pu ≤ 8000000) (qlo : ∀ j, -20 ≤ m_lo j ∧ m_lo j ≤ 20) (qhi : ∀ j, m_hi j = -2000000005 ∨ (-20 ≤ m_hi j ∧ m_hi j ≤ 20)) : CR l yX7_isWithin wsX7_isWithin ({ frames := 0, cells := 0, slots := 0, locals := 0 }) D cA [.ref (m 0), iv (((c : Nat) : Int))] (wMO cA m (((m_nc : Nat) : Int)) (((m_nr : Nat) : Int)) (m_ke) (m_so) (m_bu) (m_bc) (m_pu) (m_qu) (m_fs) (m_cd) (m_un) (m_hb) (m_pf) (m_ef) ++ wMP cA m (m_kd) (m_lo) (m_hi) (m_co) (m_pa) (m_rk) (m_nu) (m_ct) (m_sa) ++ wMH cA m (m_pl) (m_pr)) (fun ov => ov = some (iv (if inBP m_lo m_hi m_pl m_pu c then 1 else 0))) := by
  refine CR.mk (cc := cX7_isWithin) (maxL := 2) (ret := (some .boolean)) (by decide +kernel) rfl (Nat.le_of_ble_eq_true rfl) ?_
  intro p_ e_ s_ m_ b_ me_ c_ F
  have hV := @IR_P D s_
  have iX7 : ∀ w ∈ u_ws RX7 TX7 38, w ∈ wsX7_isWithin := by decide +kernel
  refine g_lsub ([(0, .ref (m 0)), (1, iv (((c : Nat) : Int)))]) [0, 1] rfl ?_
  refine g_aload_n F 0 rfl rfl dX7_isWithin_0 ?_
  refine g_get F hV iX7 0 rfl rfl 16 (by decide) (List.mem_of_getElem? (i := 1) rfl) rfl dX7_isWithin_1 ?_
  refine g_iload_n F 1 rfl rfl dX7_isWithin_4 ?_
  have r_1 := hpl (c)
  refine g_lald F hV 10 rfl (c) (by omega) (by omega) (by decide) dX7_isWithin_5 ?_
  refine g_aload_n F 0 rfl rfl dX7_isWithin_6 ?_
  refine g_get F hV iX7 0 rfl rfl 2 (by decide) (List.mem_of_getElem? (i := 2) rfl) rfl dX7_isWithin_7 ?_
  refine g_iload_n F 1 rfl rfl dX7_isWithin_10 ?_
  have r_2 := qlo (c)
  refine g_iald F hV 2 rfl (c) (by omega) (by omega) (by decide) dX7_isWithin_11 ?_
  refine g_i2l F ⟨by omega, by omega⟩ dX7_isWithin_12 ?_
  refine g_aload_n F 0 rfl rfl dX7_isWithin_13 ?_
  refine g_get F hV iX7 0 rfl rfl 17 (by decide) (List.mem_of_getElem? (i := 3) rfl) rfl dX7_isWithin_14 ?_
  refine g_lmul F dX7_isWithin_17 ?_
  refine g_lcmp_lt F (tgt := 59) dX7_isWithin_18 dX7_isWithin_19 (by decide) ⟨by omega, by omega⟩ (mul_64 (by omega) (by omega)) (fun c_3 => ?_) (fun c_3 => ?_)
  · skip
    refine g_iconst F dX7_isWithin_59 ?_
    exact g_zretR F rfl (nar_01 (Or.inl rfl)) (congrArg (fun z => some (iv z)) (show (0 : Int) = if inBP m_lo m_hi m_pl m_pu c then 1 else 0 by first | (rw [if_neg (by unfold inBP; omega)]; done) | (rw [if_pos (by unfold inBP; omega)]; done))) dX7_isWithin_60
  · skip
    refine g_aload_n F 0 rfl rfl dX7_isWithin_22 ?_
    refine g_get F hV iX7 0 rfl rfl 3 (by decide) (List.mem_of_getElem? (i := 4) rfl) rfl dX7_isWithin_23 ?_
    refine g_iload_n F 1 rfl rfl dX7_isWithin_26 ?_
    have r_4 := qhi (c)
    refine g_iald F hV 3 rfl (c) (by omega) (by omega) (by decide) dX7_isWithin_27 ?_
    refine g_ldc F (-2000000005) (by decide) (List.mem_of_getElem? (i := 5) rfl) dX7_isWithin_28 ?_
    refine g_icmp_eq F (tgt := 55) dX7_isWithin_30 (by decide) ⟨by omega, by omega⟩ ⟨by decide, by decide⟩ (fun c_5 => ?_) (fun c_5 => ?_)
    · skip
      refine g_iconst F dX7_isWithin_55 ?_
      refine g_goto F (tgt := 60) dX7_isWithin_56 (by decide) ?_
      exact g_zretR F rfl (nar_01 (Or.inr rfl)) (congrArg (fun z => some (iv z)) (show (1 : Int) = if inBP m_lo m_hi m_pl m_pu c then 1 else 0 by first | (rw [if_neg (by unfold inBP; omega)]; done) | (rw [if_pos (by unfold inBP; omega)]; done))) dX7_isWithin_60
    · skip
      refine g_aload_n F 0 rfl rfl dX7_isWithin_33 ?_
      refine g_get F hV iX7 0 rfl rfl 16 (by decide) (List.mem_of_getElem? (i := 1) rfl) rfl dX7_isWithin_34 ?_
      refine g_iload_n F 1 rfl rfl dX7_isWithin_37 ?_
      have r_6 := hpl (c)
      refine g_lald F hV 10 rfl (c) (by omega) (by omega) (by decide) dX7_isWithin_38 ?_
      refine g_aload_n F 0 rfl rfl dX7_isWithin_39 ?_
      refine g_get F hV iX7 0 rfl rfl 3 (by decide) (List.mem_of_getElem? (i := 4) rfl) rfl dX7_isWithin_40 ?_
      refine g_iload_n F 1 rfl rfl dX7_isWithin_43 ?_
      have r_7 := qhi (c)
      refine g_iald F hV 3 rfl (c) (by omega) (by omega) (by decide) dX7_isWithin_44 ?_
      refine g_i2l F ⟨by omega, by omega⟩ dX7_isWithin_45 ?_
      refine g_aload_n F 0 rfl rfl dX7_isWithin_46 ?_
      refine g_get F hV iX7 0 rfl rfl 17 (by decide) (List.mem_of_getElem? (i := 3) rfl) rfl dX7_isWithin_47 ?_
      refine g_lmul F dX7_isWithin_50 ?_
      refine g_lcmp_gt F (tgt := 59) dX7_isWithin_51 dX7_isWithin_52 (by decide) ⟨by omega, by omega⟩ (mul_64 (by omega) (by omega)) (fun c_8 => ?_) (fun c_8 => ?_)
      · skip
        refine g_iconst F dX7_isWithin_59 ?_
        exact g_zretR F rfl (nar_01 (Or.inl rfl)) (congrArg (fun z => some (iv z)) (show (0 : Int) = if inBP m_lo m_hi m_pl m_pu c then 1 else 0 by first | (rw [if_neg (by unfold inBP; omega)]; done) | (rw [if_pos (by unfold inBP; omega)]; done))) dX7_isWithin_60
      · skip
        refine g_iconst F dX7_isWithin_55 ?_
        refine g_goto F (tgt := 60) dX7_isWithin_56 (by decide) ?_
        exact g_zretR F rfl (nar_01 (Or.inr rfl)) (congrArg (fun z => some (iv z)) (show (1 : Int) = if inBP m_lo m_hi m_pl m_pu c then 1 else 0 by first | (rw [if_neg (by unfold inBP; omega)]; done) | (rw [if_pos (by unfold inBP; omega)]; done))) dX7_isWithin_60

set_option maxHeartbeats 4000000 in
set_option maxRecDepth 100000 in
theorem kX7_sumOf (l : Launch) (D : va_G) (cA : Nat → ClassId) (m : Nat → Nat) (m_nc : Nat) (m_nr : Nat) (m_ke : Int) (m_so : Int) (m_bu : Int) (m_bc : Int) (m_pu : Int) (m_qu : Int) (m_fs : Int) (m_cd : Int) (m_un : Int) (m_hb : Int) (m_pf : Int) (m_ef : Int) (m_kd : Nat → Int) (m_lo : Nat → Int) (m_hi : Nat → Int) (m_co : Nat → Int) (m_pa : Nat → Int) (m_rk : Nat → Int) (m_nu : Nat → Int) (m_ct : Nat → Int) (m_sa : Nat → Int) (m_pl : Nat → Int) (m_pr : Nat → Int) (r : Nat) (hr : r < 7) (qnc : m_nc ≤ 5) (qsa : ∀ j, -9 ≤ m_sa j ∧ m_sa j ≤ 9) : CR l yX7_sumOf wsX7_sumOf ({ frames := 0, cells := 0, slots := 0, locals := 0 }) D cA [.ref (m 0), iv (((r : Nat) : Int))] (wMO cA m (((m_nc : Nat) : Int)) (((m_nr : Nat) : Int)) (m_ke) (m_so) (m_bu) (m_bc) (m_pu) (m_qu) (m_fs) (m_cd) (m_un) (m_hb) (m_pf) (m_ef) ++ wMP cA m (m_kd) (m_lo) (m_hi) (m_co) (m_pa) (m_rk) (m_nu) (m_ct) (m_sa) ++ wMH cA m (m_pl) (m_pr)) (fun ov => ov = some (jv (sumZ (fun j => m_sa (r * 5 + j) * m_pl j) m_nc))) := by
  refine CR.mk (cc := cX7_sumOf) (maxL := 5) (ret := (some .long)) (by decide +kernel) rfl (Nat.le_of_ble_eq_true rfl) ?_
  intro p_ e_ s_ m_ b_ me_ c_ F
  have hV := @IR_P D s_
  have iX7 : ∀ w ∈ u_ws RX7 TX7 38, w ∈ wsX7_sumOf := by decide +kernel
  refine g_lsub ([(0, .ref (m 0)), (1, iv (((r : Nat) : Int)))]) [0, 1] rfl ?_
  refine g_lconst F (z := 0) dX7_sumOf_0 (by decide) ?_
  refine g_lstore_n F ([(2, jv (0)), (0, .ref (m 0)), (1, iv (((r : Nat) : Int)))]) rfl rfl (by decide) dX7_sumOf_1 ?_
  refine g_iconst F dX7_sumOf_2 ?_
  refine g_istore F ([(4, iv (0)), (2, jv (0)), (0, .ref (m 0)), (1, iv (((r : Nat) : Int)))]) rfl (by decide) dX7_sumOf_3 ?_
  have lp5 : ∀ (n : Nat) (c : Nat) (x : Int) (hc : c ≤ m_nc) (hx : x = sumZ (fun j => m_sa (r * 5 + j) * m_pl j) c), m_nc - c < n → GW p_ l e_ (headSpec wsX7_sumOf ({ frames := 0, cells := 0, slots := 0, locals := 0 })).room s_ m_ ([.ref (m 0), iv (((r : Nat) : Int))]).toArray b_ me_ c_ (MQ b_ (Qr (fun ov => ov = some (jv (sumZ (fun j => m_sa (r * 5 + j) * m_pl j) m_nc)))) ([.ref (m 0), iv (((r : Nat) : Int))]).toArray s_ 0 0 (fun _ => False)) (IR D s_) 5 0 0 (wMO cA m (((m_nc : Nat) : Int)) (((m_nr : Nat) : Int)) (m_ke) (m_so) (m_bu) (m_bc) (m_pu) (m_qu) (m_fs) (m_cd) (m_un) (m_hb) (m_pf) (m_ef) ++ wMP cA m (m_kd) (m_lo) (m_hi) (m_co) (m_pa) (m_rk) (m_nu) (m_ct) (m_sa) ++ wMH cA m (m_pl) (m_pr)) ([(0, .ref (m 0)), (1, iv (((r : Nat) : Int))), (2, jv (x)), (4, iv (((c : Nat) : Int)))]) [] 5 := by
    intro n; induction n with
    | zero => intro c x; intros; omega
    | succ n ih5 =>
      intro c x hc hx hmu5
      refine g_iload F 3 rfl dX7_sumOf_5 ?_
      refine g_aload_n F 0 rfl rfl dX7_sumOf_7 ?_
      refine g_get F hV iX7 0 rfl rfl 0 (by decide) (List.mem_of_getElem? (i := 1) rfl) rfl dX7_sumOf_8 ?_
      refine g_icmp_ge F (tgt := 43) dX7_sumOf_11 (by decide) ⟨by omega, by omega⟩ ⟨by omega, by omega⟩ (fun c_1 => ?_) (fun c_1 => ?_)
      · skip
        refine g_lload_n F 2 rfl rfl dX7_sumOf_43 ?_
        exact g_lretR F rfl (congrArg (fun z => some (jv z)) (show (x : Int) = sumZ (fun j => m_sa (r * 5 + j) * m_pl j) m_nc by subst hx; congr 1; omega)) dX7_sumOf_44
      · skip
        refine g_lload_n F 2 rfl rfl dX7_sumOf_14 ?_
        refine g_aload_n F 0 rfl rfl dX7_sumOf_15 ?_
        refine g_get F hV iX7 0 rfl rfl 10 (by decide) (List.mem_of_getElem? (i := 2) rfl) rfl dX7_sumOf_16 ?_
        refine g_iconst F dX7_sumOf_19 ?_
        refine g_iload_n F 1 rfl rfl dX7_sumOf_20 ?_
        refine g_imul F dX7_sumOf_21 ?_
        refine g_iload F 3 rfl dX7_sumOf_22 ?_
        refine g_iadd F dX7_sumOf_24 ?_
        have r_2 := qsa (r * 5 + c)
        refine g_iald F hV 9 rfl (r * 5 + c) (by omega) (by omega) (by decide) dX7_sumOf_25 ?_
        refine g_i2l F ⟨by omega, by omega⟩ dX7_sumOf_26 ?_
        refine g_aload_n F 0 rfl rfl dX7_sumOf_27 ?_
        refine g_get F hV iX7 0 rfl rfl 16 (by decide) (List.mem_of_getElem? (i := 3) rfl) rfl dX7_sumOf_28 ?_
        refine g_iload F 3 rfl dX7_sumOf_31 ?_
        refine g_lald F hV 10 rfl (c) (by omega) (by omega) (by decide) dX7_sumOf_33 ?_
        refine g_lmul F dX7_sumOf_34 ?_
        refine g_ladd F dX7_sumOf_35 ?_
        refine g_lstore_n F ([(2, jv (x + ((m_sa (r * 5 + c)) * (m_pl c)))), (0, .ref (m 0)), (1, iv (((r : Nat) : Int))), (4, iv (((c : Nat) : Int)))]) rfl rfl (by decide) dX7_sumOf_36 ?_
        refine g_iinc F 3 rfl ([(4, iv ((((c : Nat) : Int)) + 1)), (2, jv (x + ((m_sa (r * 5 + c)) * (m_pl c)))), (0, .ref (m 0)), (1, iv (((r : Nat) : Int)))]) rfl (by decide) dX7_sumOf_37 ?_
        refine g_goto F (tgt := 5) dX7_sumOf_40 (by decide) ?_
        refine g_lsub ([(0, .ref (m 0)), (1, iv (((r : Nat) : Int))), (2, jv (x + ((m_sa (r * 5 + c)) * (m_pl c)))), (4, iv ((((c : Nat) : Int)) + 1))]) [2, 3, 1, 0] rfl ?_
        exact ih5 (c + 1) (x + ((m_sa (r * 5 + c)) * (m_pl c))) (by omega) (by subst hx; rfl) (by omega)
  refine g_lsub ([(0, .ref (m 0)), (1, iv (((r : Nat) : Int))), (2, jv (0)), (4, iv (0))]) [2, 3, 1, 0] rfl ?_
  exact lp5 (_ + 1) 0 0 (by omega) (rfl) (Nat.lt_succ_self _)

set_option maxHeartbeats 4000000 in
set_option maxRecDepth 100000 in
theorem kX7_isKept (l : Launch) (D : va_G) (cA : Nat → ClassId) (m : Nat → Nat) (m_nc : Nat) (m_nr : Nat) (m_ke : Int) (m_so : Int) (m_bu : Int) (m_bc : Int) (m_pu : Int) (m_qu : Int) (m_fs : Int) (m_cd : Int) (m_un : Int) (m_hb : Int) (m_pf : Int) (m_ef : Int) (m_kd : Nat → Int) (m_lo : Nat → Int) (m_hi : Nat → Int) (m_co : Nat → Int) (m_pa : Nat → Int) (m_rk : Nat → Int) (m_nu : Nat → Int) (m_ct : Nat → Int) (m_sa : Nat → Int) (m_pl : Nat → Int) (m_pr : Nat → Int) (r : Nat) (hr : r < 7) (qnc : m_nc ≤ 5) (hpl : ∀ j, -200000000000 ≤ m_pl j ∧ m_pl j ≤ 200000000000) (hpb : 0 < m_pu ∧ m_pu ≤ 8000000) (qsa : ∀ j, -9 ≤ m_sa j ∧ m_sa j ≤ 9) (qnu : ∀ j, -198 ≤ m_nu j ∧ m_nu j ≤ 198) (qrk : ∀ j, 0 ≤ m_rk j ∧ m_rk j ≤ 2) (qct : ∀ j, 0 ≤ m_ct j ∧ m_ct j ≤ 1) : CR l yX7_isKept wsX7_isKept ({ frames := 1, cells := 0, slots := 0, locals := 24 }) D cA [.ref (m 0), iv (((r : Nat) : Int))] (wMO cA m (((m_nc : Nat) : Int)) (((m_nr : Nat) : Int)) (m_ke) (m_so) (m_bu) (m_bc) (m_pu) (m_qu) (m_fs) (m_cd) (m_un) (m_hb) (m_pf) (m_ef) ++ wMP cA m (m_kd) (m_lo) (m_hi) (m_co) (m_pa) (m_rk) (m_nu) (m_ct) (m_sa) ++ wMH cA m (m_pl) (m_pr)) (fun ov => ov = some (iv (if ¬ (m_ct r = 1 ∧ ¬ keptP (m_rk r) (sumZ (fun j => m_sa (r * 5 + j) * m_pl j) m_nc) (m_nu r * m_pu)) then 1 else 0))) := by
  refine CR.mk (cc := cX7_isKept) (maxL := 6) (ret := (some .boolean)) (by decide +kernel) rfl (Nat.le_of_ble_eq_true rfl) ?_
  intro p_ e_ s_ m_ b_ me_ c_ F
  have hV := @IR_P D s_
  have iX7 : ∀ w ∈ u_ws RX7 TX7 38, w ∈ wsX7_isKept := by decide +kernel
  have hsin := sum_in (f := fun j => m_sa (r * 5 + j) * m_pl j) qnc (fun j => by have h1 := qsa (r * 5 + j); have h2 := hpl j; exact Nat.le_trans (mul_nat (a := 9) (b := 200000000000) (by omega) (by omega)) (by decide))
  have hn9 := qnu r
  have hnb := mul_in (x := m_nu r) (y := m_pu) (a := 198) (b := 8000000) (by omega) (by omega) (by decide)
  refine g_lsub ([(0, .ref (m 0)), (1, iv (((r : Nat) : Int)))]) [0, 1] rfl ?_
  refine g_aload_n F 0 rfl rfl dX7_isKept_0 ?_
  refine g_iload_n F 1 rfl rfl dX7_isKept_1 ?_
  refine g_callRV F hV (As := [iv (((r : Nat) : Int))]) (rest := []) (kX7_sumOf l D cA m m_nc m_nr m_ke m_so m_bu m_bc m_pu m_qu m_fs m_cd m_un m_hb m_pf m_ef m_kd m_lo m_hi m_co m_pa m_rk m_nu m_ct m_sa m_pl m_pr r (hr) (qnc) (qsa)) (cwV 1 F.2.2.2.2.1 gX7_isKept_X7_sumOf rfl rfl rfl (by decide +kernel) ⟨Nat.le_of_ble_eq_true rfl, Nat.le_of_ble_eq_true rfl⟩) rfl rfl (q0 := 0) rfl [0, 1, 2, 3, 4, 5, 6, 7, 8, 9, 10, 11] rfl rfl rfl (Nat.le_of_ble_eq_true rfl) ⟨Nat.le_of_ble_eq_true rfl, Nat.le_of_ble_eq_true rfl⟩ dX7_isKept_2 (fun v hv => ?_)
  subst hv
  refine g_eq (st' := [jv (sumZ (fun j => m_sa (r * 5 + j) * m_pl j) m_nc)]) rfl rfl rfl ?_
  refine g_lstore_n F ([(2, jv (sumZ (fun j => m_sa (r * 5 + j) * m_pl j) m_nc)), (0, .ref (m 0)), (1, iv (((r : Nat) : Int)))]) rfl rfl (by decide) dX7_isKept_5 ?_
  refine g_aload_n F 1 rfl rfl dX7_isKept_6 ?_
  refine g_get F hV iX7 0 rfl rfl 8 (by decide) (List.mem_of_getElem? (i := 1) rfl) rfl dX7_isKept_7 ?_
  refine g_iload_n F 2 rfl rfl dX7_isKept_10 ?_
  have r_1 := qnu (r)
  refine g_iald F hV 7 rfl (r) (by omega) (by omega) (by decide) dX7_isKept_11 ?_
  refine g_i2l F ⟨by omega, by omega⟩ dX7_isKept_12 ?_
  refine g_aload_n F 1 rfl rfl dX7_isKept_13 ?_
  refine g_get F hV iX7 0 rfl rfl 17 (by decide) (List.mem_of_getElem? (i := 2) rfl) rfl dX7_isKept_14 ?_
  refine g_lmul F dX7_isKept_17 ?_
  refine g_lstore F ([(4, jv ((m_nu r) * m_pu)), (2, jv (sumZ (fun j => m_sa (r * 5 + j) * m_pl j) m_nc)), (0, .ref (m 0)), (1, iv (((r : Nat) : Int)))]) rfl (by decide) dX7_isKept_18 ?_
  refine g_aload_n F 2 rfl rfl dX7_isKept_20 ?_
  refine g_get F hV iX7 0 rfl rfl 9 (by decide) (List.mem_of_getElem? (i := 3) rfl) rfl dX7_isKept_21 ?_
  refine g_iload_n F 3 rfl rfl dX7_isKept_24 ?_
  have r_2 := qct (r)
  refine g_zald F hV 8 rfl (r) (by omega) (by omega) (by decide) dX7_isKept_25 ?_
  refine g_if_eq F (tgt := 75) dX7_isKept_26 (by decide) ⟨by omega, by omega⟩ (fun c_3 => ?_) (fun c_3 => ?_)
  · skip
    refine g_iconst F dX7_isKept_75 ?_
    refine g_goto F (tgt := 80) dX7_isKept_76 (by decide) ?_
    exact g_zretR F rfl (nar_01 (Or.inr rfl)) (congrArg (fun z => some (iv z)) (show (1 : Int) = if ¬ (m_ct r = 1 ∧ ¬ keptP (m_rk r) (sumZ (fun j => m_sa (r * 5 + j) * m_pl j) m_nc) (m_nu r * m_pu)) then 1 else 0 by first | (rw [if_neg (by unfold keptP; omega)]; done) | (rw [if_pos (by unfold keptP; omega)]; done))) dX7_isKept_80
  · skip
    refine g_aload_n F 2 rfl rfl dX7_isKept_29 ?_
    refine g_get F hV iX7 0 rfl rfl 7 (by decide) (List.mem_of_getElem? (i := 4) rfl) rfl dX7_isKept_30 ?_
    refine g_iload_n F 3 rfl rfl dX7_isKept_33 ?_
    have r_4 := qrk (r)
    refine g_iald F hV 6 rfl (r) (by omega) (by omega) (by decide) dX7_isKept_34 ?_
    refine g_if_ne F (tgt := 48) dX7_isKept_35 (by decide) ⟨by omega, by omega⟩ (fun c_5 => ?_) (fun c_5 => ?_)
    · skip
      refine g_aload_n F 2 rfl rfl dX7_isKept_48 ?_
      refine g_get F hV iX7 0 rfl rfl 7 (by decide) (List.mem_of_getElem? (i := 4) rfl) rfl dX7_isKept_49 ?_
      refine g_iload_n F 3 rfl rfl dX7_isKept_52 ?_
      have r_6 := qrk (r)
      refine g_iald F hV 6 rfl (r) (by omega) (by omega) (by decide) dX7_isKept_53 ?_
      refine g_iconst F dX7_isKept_54 ?_
      refine g_icmp_ne F (tgt := 68) dX7_isKept_55 (by decide) ⟨by omega, by omega⟩ ⟨by decide, by decide⟩ (fun c_7 => ?_) (fun c_7 => ?_)
      · skip
        refine g_lload_n F 1 rfl rfl dX7_isKept_68 ?_
        refine g_lload F 0 rfl dX7_isKept_69 ?_
        refine g_lcmp_ne F (tgt := 79) dX7_isKept_71 dX7_isKept_72 (by decide) ⟨by omega, by omega⟩ ⟨by omega, by omega⟩ (fun c_8 => ?_) (fun c_8 => ?_)
        · skip
          refine g_iconst F dX7_isKept_79 ?_
          exact g_zretR F rfl (nar_01 (Or.inl rfl)) (congrArg (fun z => some (iv z)) (show (0 : Int) = if ¬ (m_ct r = 1 ∧ ¬ keptP (m_rk r) (sumZ (fun j => m_sa (r * 5 + j) * m_pl j) m_nc) (m_nu r * m_pu)) then 1 else 0 by first | (rw [if_neg (by unfold keptP; omega)]; done) | (rw [if_pos (by unfold keptP; omega)]; done))) dX7_isKept_80
        · skip
          refine g_iconst F dX7_isKept_75 ?_
          refine g_goto F (tgt := 80) dX7_isKept_76 (by decide) ?_
          exact g_zretR F rfl (nar_01 (Or.inr rfl)) (congrArg (fun z => some (iv z)) (show (1 : Int) = if ¬ (m_ct r = 1 ∧ ¬ keptP (m_rk r) (sumZ (fun j => m_sa (r * 5 + j) * m_pl j) m_nc) (m_nu r * m_pu)) then 1 else 0 by first | (rw [if_neg (by unfold keptP; omega)]; done) | (rw [if_pos (by unfold keptP; omega)]; done))) dX7_isKept_80
      · skip
        refine g_lload_n F 1 rfl rfl dX7_isKept_58 ?_
        refine g_lload F 0 rfl dX7_isKept_59 ?_
        refine g_lcmp_lt F (tgt := 79) dX7_isKept_61 dX7_isKept_62 (by decide) ⟨by omega, by omega⟩ ⟨by omega, by omega⟩ (fun c_9 => ?_) (fun c_9 => ?_)
        · skip
          refine g_iconst F dX7_isKept_79 ?_
          exact g_zretR F rfl (nar_01 (Or.inl rfl)) (congrArg (fun z => some (iv z)) (show (0 : Int) = if ¬ (m_ct r = 1 ∧ ¬ keptP (m_rk r) (sumZ (fun j => m_sa (r * 5 + j) * m_pl j) m_nc) (m_nu r * m_pu)) then 1 else 0 by first | (rw [if_neg (by unfold keptP; omega)]; done) | (rw [if_pos (by unfold keptP; omega)]; done))) dX7_isKept_80
        · skip
          refine g_goto F (tgt := 75) dX7_isKept_65 (by decide) ?_
          refine g_iconst F dX7_isKept_75 ?_
          refine g_goto F (tgt := 80) dX7_isKept_76 (by decide) ?_
          exact g_zretR F rfl (nar_01 (Or.inr rfl)) (congrArg (fun z => some (iv z)) (show (1 : Int) = if ¬ (m_ct r = 1 ∧ ¬ keptP (m_rk r) (sumZ (fun j => m_sa (r * 5 + j) * m_pl j) m_nc) (m_nu r * m_pu)) then 1 else 0 by first | (rw [if_neg (by unfold keptP; omega)]; done) | (rw [if_pos (by unfold keptP; omega)]; done))) dX7_isKept_80
    · skip
      refine g_lload_n F 1 rfl rfl dX7_isKept_38 ?_
      refine g_lload F 0 rfl dX7_isKept_39 ?_
      refine g_lcmp_gt F (tgt := 79) dX7_isKept_41 dX7_isKept_42 (by decide) ⟨by omega, by omega⟩ ⟨by omega, by omega⟩ (fun c_10 => ?_) (fun c_10 => ?_)
      · skip
        refine g_iconst F dX7_isKept_79 ?_
        exact g_zretR F rfl (nar_01 (Or.inl rfl)) (congrArg (fun z => some (iv z)) (show (0 : Int) = if ¬ (m_ct r = 1 ∧ ¬ keptP (m_rk r) (sumZ (fun j => m_sa (r * 5 + j) * m_pl j) m_nc) (m_nu r * m_pu)) then 1 else 0 by first | (rw [if_neg (by unfold keptP; omega)]; done) | (rw [if_pos (by unfold keptP; omega)]; done))) dX7_isKept_80
      · skip
        refine g_goto F (tgt := 75) dX7_isKept_45 (by decide) ?_
        refine g_iconst F dX7_isKept_75 ?_
        refine g_goto F (tgt := 80) dX7_isKept_76 (by decide) ?_
        exact g_zretR F rfl (nar_01 (Or.inr rfl)) (congrArg (fun z => some (iv z)) (show (1 : Int) = if ¬ (m_ct r = 1 ∧ ¬ keptP (m_rk r) (sumZ (fun j => m_sa (r * 5 + j) * m_pl j) m_nc) (m_nu r * m_pu)) then 1 else 0 by first | (rw [if_neg (by unfold keptP; omega)]; done) | (rw [if_pos (by unfold keptP; omega)]; done))) dX7_isKept_80

set_option maxHeartbeats 4000000 in
set_option maxRecDepth 100000 in
theorem kX7_check (l : Launch) (D : va_G) (cA : Nat → ClassId) (m : Nat → Nat) (m_nc : Nat) (m_nr : Nat) (m_ke : Int) (m_so : Int) (m_bu : Int) (m_bc : Int) (m_pu : Int) (m_qu : Int) (m_fs : Int) (m_cd : Int) (m_un : Int) (m_hb : Int) (m_pf : Int) (m_ef : Int) (m_kd : Nat → Int) (m_lo : Nat → Int) (m_hi : Nat → Int) (m_co : Nat → Int) (m_pa : Nat → Int) (m_rk : Nat → Int) (m_nu : Nat → Int) (m_ct : Nat → Int) (m_sa : Nat → Int) (m_pl : Nat → Int) (m_pr : Nat → Int) (qnc : m_nc ≤ 5) (qnr : m_nr ≤ 7) (hpl : ∀ j, -200000000000 ≤ m_pl j ∧ m_pl j ≤ 200000000000) (hpb : 0 < m_pu ∧ m_pu ≤ 8000000) (qsa : ∀ j, -9 ≤ m_sa j ∧ m_sa j ≤ 9) (qnu : ∀ j, -198 ≤ m_nu j ∧ m_nu j ≤ 198) (qrk : ∀ j, 0 ≤ m_rk j ∧ m_rk j ≤ 2) (qct : ∀ j, 0 ≤ m_ct j ∧ m_ct j ≤ 1) (qlo : ∀ j, -20 ≤ m_lo j ∧ m_lo j ≤ 20) (qhi : ∀ j, m_hi j = -2000000005 ∨ (-20 ≤ m_hi j ∧ m_hi j ≤ 20)) (qkd : ∀ j, 0 ≤ m_kd j ∧ m_kd j ≤ 2) (qpa : ∀ j, j < m_nc → m_pa j = -2000000005 ∨ (0 ≤ m_pa j ∧ m_pa j < (m_nc : Int))) : CR l yX7_check wsX7_check ({ frames := 2, cells := 0, slots := 0, locals := 49 }) D cA [.ref (m 0)] (wMO cA m (((m_nc : Nat) : Int)) (((m_nr : Nat) : Int)) (m_ke) (m_so) (m_bu) (m_bc) (m_pu) (m_qu) (m_fs) (m_cd) (m_un) (m_hb) (m_pf) (m_ef) ++ wMP cA m (m_kd) (m_lo) (m_hi) (m_co) (m_pa) (m_rk) (m_nu) (m_ct) (m_sa) ++ wMH cA m (m_pl) (m_pr)) (fun ov => ov = some (iv (fwZ (firstZ (unwB m_kd m_lo m_hi m_pa m_pl m_pu m_nc) m_nc) (firstZ (brkB m_rk m_nu m_ct m_sa m_pl m_pu m_nc) m_nr)))) := by
  refine CR.mk (cc := cX7_check) (maxL := 4) (ret := (some .int)) (by decide +kernel) rfl (Nat.le_of_ble_eq_true rfl) ?_
  intro p_ e_ s_ m_ b_ me_ c_ F
  have hV := @IR_P D s_
  have iX7 : ∀ w ∈ u_ws RX7 TX7 38, w ∈ wsX7_check := by decide +kernel
  refine g_lsub ([(0, .ref (m 0))]) [0] rfl ?_
  refine g_iconst F dX7_check_0 ?_
  refine g_istore_n F ([(1, iv (0)), (0, .ref (m 0))]) rfl rfl (by decide) dX7_check_1 ?_
  have lp2 : ∀ (n : Nat) (c : Nat) (hc : c ≤ m_nc) (hj : ∀ j, j < c → unwB m_kd m_lo m_hi m_pa m_pl m_pu m_nc j = false), m_nc - c < n → GW p_ l e_ (headSpec wsX7_check ({ frames := 2, cells := 0, slots := 0, locals := 49 })).room s_ m_ ([.ref (m 0)]).toArray b_ me_ c_ (MQ b_ (Qr (fun ov => ov = some (iv (fwZ (firstZ (unwB m_kd m_lo m_hi m_pa m_pl m_pu m_nc) m_nc) (firstZ (brkB m_rk m_nu m_ct m_sa m_pl m_pu m_nc) m_nr))))) ([.ref (m 0)]).toArray s_ 0 0 (fun _ => False)) (IR D s_) 4 0 0 (wMO cA m (((m_nc : Nat) : Int)) (((m_nr : Nat) : Int)) (m_ke) (m_so) (m_bu) (m_bc) (m_pu) (m_qu) (m_fs) (m_cd) (m_un) (m_hb) (m_pf) (m_ef) ++ wMP cA m (m_kd) (m_lo) (m_hi) (m_co) (m_pa) (m_rk) (m_nu) (m_ct) (m_sa) ++ wMH cA m (m_pl) (m_pr)) ([(0, .ref (m 0)), (1, iv (((c : Nat) : Int)))]) [] 2 := by
    intro n; induction n with
    | zero => intro c; intros; omega
    | succ n ih2 =>
      intro c hc hj hmu2
      have hpc := qpa c
      have hp9 := hpl (m_pa c).toNat
      refine g_iload_n F 1 rfl rfl dX7_check_2 ?_
      refine g_aload_n F 0 rfl rfl dX7_check_3 ?_
      refine g_get F hV iX7 0 rfl rfl 0 (by decide) (List.mem_of_getElem? (i := 1) rfl) rfl dX7_check_4 ?_
      refine g_icmp_ge F (tgt := 121) dX7_check_7 (by decide) ⟨by omega, by omega⟩ ⟨by omega, by omega⟩ (fun c_1 => ?_) (fun c_1 => ?_)
      · skip
        refine g_iconst F dX7_check_121 ?_
        refine g_istore_n F ([(1, iv (0)), (0, .ref (m 0))]) rfl rfl (by decide) dX7_check_122 ?_
        have lp123 : ∀ (n : Nat) (r : Nat) (hr : r ≤ m_nr) (hk : ∀ j, j < r → brkB m_rk m_nu m_ct m_sa m_pl m_pu m_nc j = false), m_nr - r < n → GW p_ l e_ (headSpec wsX7_check ({ frames := 2, cells := 0, slots := 0, locals := 49 })).room s_ m_ ([.ref (m 0)]).toArray b_ me_ c_ (MQ b_ (Qr (fun ov => ov = some (iv (fwZ (firstZ (unwB m_kd m_lo m_hi m_pa m_pl m_pu m_nc) m_nc) (firstZ (brkB m_rk m_nu m_ct m_sa m_pl m_pu m_nc) m_nr))))) ([.ref (m 0)]).toArray s_ 0 0 (fun _ => False)) (IR D s_) 4 0 0 (wMO cA m (((m_nc : Nat) : Int)) (((m_nr : Nat) : Int)) (m_ke) (m_so) (m_bu) (m_bc) (m_pu) (m_qu) (m_fs) (m_cd) (m_un) (m_hb) (m_pf) (m_ef) ++ wMP cA m (m_kd) (m_lo) (m_hi) (m_co) (m_pa) (m_rk) (m_nu) (m_ct) (m_sa) ++ wMH cA m (m_pl) (m_pr)) ([(0, .ref (m 0)), (1, iv (((r : Nat) : Int)))]) [] 123 := by
          intro n; induction n with
          | zero => intro r; intros; omega
          | succ n ih123 =>
            intro r hr hk hmu123
            refine g_iload_n F 1 rfl rfl dX7_check_123 ?_
            refine g_aload_n F 0 rfl rfl dX7_check_124 ?_
            refine g_get F hV iX7 0 rfl rfl 6 (by decide) (List.mem_of_getElem? (i := 7) rfl) rfl dX7_check_125 ?_
            refine g_icmp_ge F (tgt := 150) dX7_check_128 (by decide) ⟨by omega, by omega⟩ ⟨by omega, by omega⟩ (fun c_2 => ?_) (fun c_2 => ?_)
            · skip
              refine g_iconst F dX7_check_150 ?_
              exact g_zretR F rfl rfl (congrArg (fun z => some (iv z)) (show (0 : Int) = fwZ (firstZ (unwB m_kd m_lo m_hi m_pa m_pl m_pu m_nc) m_nc) (firstZ (brkB m_rk m_nu m_ct m_sa m_pl m_pu m_nc) m_nr) by rw [firstZ_none (f := unwB m_kd m_lo m_hi m_pa m_pl m_pu m_nc) (fun j w => hj j (by omega)), firstZ_none (f := brkB m_rk m_nu m_ct m_sa m_pl m_pu m_nc) (fun j w => hk j (by omega))]; rfl)) dX7_check_151
            · skip
              refine g_aload_n F 0 rfl rfl dX7_check_131 ?_
              refine g_iload_n F 1 rfl rfl dX7_check_132 ?_
              refine g_callRV F hV (As := [iv (((r : Nat) : Int))]) (rest := []) (kX7_isKept l D cA m m_nc m_nr m_ke m_so m_bu m_bc m_pu m_qu m_fs m_cd m_un m_hb m_pf m_ef m_kd m_lo m_hi m_co m_pa m_rk m_nu m_ct m_sa m_pl m_pr r (by omega) (qnc) (hpl) (hpb) (qsa) (qnu) (qrk) (qct)) (cwV 1 F.2.2.2.2.1 gX7_check_X7_isKept rfl rfl rfl (by decide +kernel) ⟨Nat.le_of_ble_eq_true rfl, Nat.le_of_ble_eq_true rfl⟩) rfl rfl (q0 := 0) rfl [0, 1, 2, 3, 4, 5, 6, 7, 8, 9, 10, 11] rfl rfl rfl (Nat.le_of_ble_eq_true rfl) ⟨Nat.le_of_ble_eq_true rfl, Nat.le_of_ble_eq_true rfl⟩ dX7_check_133 (fun v hv => ?_)
              subst hv
              refine g_eq (st' := [iv (if ¬ (m_ct r = 1 ∧ ¬ keptP (m_rk r) (sumZ (fun j => m_sa (r * 5 + j) * m_pl j) m_nc) (m_nu r * m_pu)) then 1 else 0)]) rfl rfl rfl ?_
              refine g_ifb_ne F (tgt := 144) dX7_check_136 (by decide) (fun c_3 => ?_) (fun c_3 => ?_)
              · skip
                refine g_iinc F 1 rfl ([(1, iv ((((r : Nat) : Int)) + 1)), (0, .ref (m 0))]) rfl (by decide) dX7_check_144 ?_
                refine g_goto F (tgt := 123) dX7_check_147 (by decide) ?_
                refine g_lsub ([(0, .ref (m 0)), (1, iv ((((r : Nat) : Int)) + 1))]) [1, 0] rfl ?_
                exact ih123 (r + 1) (by omega) (fun j w => by rcases (show j < r ∨ j = r by omega) with q | q; exact hk j q; (subst q; unfold brkB; simp only [decide_eq_false_iff_not]; assumption)) (by omega)
              · skip
                refine g_bipush F dX7_check_139 (by decide) ?_
                refine g_iload_n F 1 rfl rfl dX7_check_141 ?_
                refine g_iadd F dX7_check_142 ?_
                exact g_zretR F rfl rfl (congrArg (fun z => some (iv z)) (show (100 + (((r : Nat) : Int)) : Int) = fwZ (firstZ (unwB m_kd m_lo m_hi m_pa m_pl m_pu m_nc) m_nc) (firstZ (brkB m_rk m_nu m_ct m_sa m_pl m_pu m_nc) m_nr) by rw [firstZ_none (f := unwB m_kd m_lo m_hi m_pa m_pl m_pu m_nc) (fun j w => hj j (by omega)), firstZ_at (f := brkB m_rk m_nu m_ct m_sa m_pl m_pu m_nc) (i := r) hk (by unfold brkB; simp only [decide_eq_true_eq]; have h9 : ¬ ¬ (m_ct r = 1 ∧ ¬ keptP (m_rk r) (sumZ (fun j => m_sa (r * 5 + j) * m_pl j) m_nc) (m_nu r * m_pu)) := (by assumption); exact Decidable.of_not_not h9) (by omega)]; unfold fwZ; rw [if_neg (by decide), if_neg (by omega)])) dX7_check_143
        refine g_lsub ([(0, .ref (m 0)), (1, iv (0))]) [1, 0] rfl ?_
        exact lp123 (_ + 1) 0 (by omega) (fun j w => absurd w (Nat.not_lt_zero j)) (Nat.lt_succ_self _)
      · skip
        refine g_aload_n F 0 rfl rfl dX7_check_10 ?_
        refine g_get F hV iX7 0 rfl rfl 1 (by decide) (List.mem_of_getElem? (i := 2) rfl) rfl dX7_check_11 ?_
        refine g_iload_n F 1 rfl rfl dX7_check_14 ?_
        have r_4 := qkd (c)
        refine g_iald F hV 1 rfl (c) (by omega) (by omega) (by decide) dX7_check_15 ?_
        refine g_if_eq F (tgt := 35) dX7_check_16 (by decide) ⟨by omega, by omega⟩ (fun c_5 => ?_) (fun c_5 => ?_)
        · skip
          refine g_iconst F dX7_check_35 ?_
          refine g_goto F (tgt := 40) dX7_check_36 (by decide) ?_
          refine g_istore_n F ([(2, iv (1)), (0, .ref (m 0)), (1, iv (((c : Nat) : Int)))]) rfl rfl (by decide) dX7_check_40 ?_
          refine g_aload_n F 1 rfl rfl dX7_check_41 ?_
          refine g_get F hV iX7 0 rfl rfl 1 (by decide) (List.mem_of_getElem? (i := 2) rfl) rfl dX7_check_42 ?_
          refine g_iload_n F 2 rfl rfl dX7_check_45 ?_
          have r_6 := qkd (c)
          refine g_iald F hV 1 rfl (c) (by omega) (by omega) (by decide) dX7_check_46 ?_
          refine g_iconst F dX7_check_47 ?_
          refine g_icmp_ne F (tgt := 93) dX7_check_48 (by decide) ⟨by omega, by omega⟩ ⟨by decide, by decide⟩ (fun c_7 => ?_) (fun c_7 => ?_)
          · skip
            refine g_iconst F dX7_check_93 ?_
            refine g_istore_n F ([(3, iv (0)), (2, iv (1)), (0, .ref (m 0)), (1, iv (((c : Nat) : Int)))]) rfl rfl (by decide) dX7_check_94 ?_
            refine g_aload_n F 2 rfl rfl dX7_check_95 ?_
            refine g_iload_n F 3 rfl rfl dX7_check_96 ?_
            refine g_callRV F hV (As := [iv (((c : Nat) : Int))]) (rest := []) (kX7_isWithin l D cA m m_nc m_nr m_ke m_so m_bu m_bc m_pu m_qu m_fs m_cd m_un m_hb m_pf m_ef m_kd m_lo m_hi m_co m_pa m_rk m_nu m_ct m_sa m_pl m_pr c (by omega) (hpl) (hpb) (qlo) (qhi)) (cwV 1 F.2.2.2.2.1 gX7_check_X7_isWithin rfl rfl rfl (by decide +kernel) ⟨Nat.le_of_ble_eq_true rfl, Nat.le_of_ble_eq_true rfl⟩) rfl rfl (q0 := 0) rfl [0, 1, 2, 3, 4, 5, 6, 7, 8, 9, 10, 11] rfl rfl rfl (Nat.le_of_ble_eq_true rfl) ⟨Nat.le_of_ble_eq_true rfl, Nat.le_of_ble_eq_true rfl⟩ dX7_check_97 (fun v hv => ?_)
            subst hv
            refine g_eq (st' := [iv (if inBP m_lo m_hi m_pl m_pu c then 1 else 0)]) rfl rfl rfl ?_
            refine g_ifb_eq F (tgt := 111) dX7_check_100 (by decide) (fun c_8 => ?_) (fun c_8 => ?_)
            · skip
              refine g_iconst F dX7_check_111 ?_
              refine g_iload_n F 3 rfl rfl dX7_check_112 ?_
              refine g_iadd F dX7_check_113 ?_
              exact g_zretR F rfl rfl (congrArg (fun z => some (iv z)) (show (1 + (((c : Nat) : Int)) : Int) = fwZ (firstZ (unwB m_kd m_lo m_hi m_pa m_pl m_pu m_nc) m_nc) (firstZ (brkB m_rk m_nu m_ct m_sa m_pl m_pu m_nc) m_nr) by rw [firstZ_at (f := unwB m_kd m_lo m_hi m_pa m_pl m_pu m_nc) (i := c) hj (by unfold unwB; simp only [decide_eq_true_eq]; rintro ⟨w1, w2, w3⟩; first | exact absurd w1 (by assumption) | omega) (by omega)]; unfold fwZ; rw [if_pos (by omega)])) dX7_check_114
            · skip
              refine g_iload_n F 1 rfl rfl dX7_check_103 ?_
              refine g_if_eq F (tgt := 111) dX7_check_104 (by decide) ⟨by decide, by decide⟩ (fun c_9 => ?_) (fun c_9 => ?_)
              · skip
                exfalso; omega
              · skip
                refine g_iload_n F 0 rfl rfl dX7_check_107 ?_
                refine g_if_eq F (tgt := 115) dX7_check_108 (by decide) ⟨by decide, by decide⟩ (fun c_10 => ?_) (fun c_10 => ?_)
                · skip
                  refine g_iinc F 3 rfl ([(1, iv ((((c : Nat) : Int)) + 1)), (3, iv (0)), (2, iv (1)), (0, .ref (m 0))]) rfl (by decide) dX7_check_115 ?_
                  refine g_goto F (tgt := 2) dX7_check_118 (by decide) ?_
                  refine g_lsub ([(0, .ref (m 0)), (1, iv ((((c : Nat) : Int)) + 1))]) [3, 0] rfl ?_
                  exact ih2 (c + 1) (by omega) (fun j w => by rcases (show j < c ∨ j = c by omega) with q | q; exact hj j q; (subst q; unfold unwB; simp only [decide_eq_false_iff_not]; intro q2; apply q2; refine ⟨by assumption, by omega, by omega⟩)) (by omega)
                · skip
                  exfalso; omega
          · skip
            refine g_aload_n F 1 rfl rfl dX7_check_51 ?_
            refine g_get F hV iX7 0 rfl rfl 16 (by decide) (List.mem_of_getElem? (i := 3) rfl) rfl dX7_check_52 ?_
            refine g_iload_n F 2 rfl rfl dX7_check_55 ?_
            have r_11 := hpl (c)
            refine g_lald F hV 10 rfl (c) (by omega) (by omega) (by decide) dX7_check_56 ?_
            refine g_lconst F (z := 0) dX7_check_57 (by decide) ?_
            refine g_lcmp_ne F (tgt := 93) dX7_check_58 dX7_check_59 (by decide) ⟨by omega, by omega⟩ ⟨by decide, by decide⟩ (fun c_12 => ?_) (fun c_12 => ?_)
            · skip
              refine g_iconst F dX7_check_93 ?_
              refine g_istore_n F ([(3, iv (0)), (2, iv (1)), (0, .ref (m 0)), (1, iv (((c : Nat) : Int)))]) rfl rfl (by decide) dX7_check_94 ?_
              refine g_aload_n F 2 rfl rfl dX7_check_95 ?_
              refine g_iload_n F 3 rfl rfl dX7_check_96 ?_
              refine g_callRV F hV (As := [iv (((c : Nat) : Int))]) (rest := []) (kX7_isWithin l D cA m m_nc m_nr m_ke m_so m_bu m_bc m_pu m_qu m_fs m_cd m_un m_hb m_pf m_ef m_kd m_lo m_hi m_co m_pa m_rk m_nu m_ct m_sa m_pl m_pr c (by omega) (hpl) (hpb) (qlo) (qhi)) (cwV 1 F.2.2.2.2.1 gX7_check_X7_isWithin rfl rfl rfl (by decide +kernel) ⟨Nat.le_of_ble_eq_true rfl, Nat.le_of_ble_eq_true rfl⟩) rfl rfl (q0 := 0) rfl [0, 1, 2, 3, 4, 5, 6, 7, 8, 9, 10, 11] rfl rfl rfl (Nat.le_of_ble_eq_true rfl) ⟨Nat.le_of_ble_eq_true rfl, Nat.le_of_ble_eq_true rfl⟩ dX7_check_97 (fun v hv => ?_)
              subst hv
              refine g_eq (st' := [iv (if inBP m_lo m_hi m_pl m_pu c then 1 else 0)]) rfl rfl rfl ?_
              refine g_ifb_eq F (tgt := 111) dX7_check_100 (by decide) (fun c_13 => ?_) (fun c_13 => ?_)
              · skip
                refine g_iconst F dX7_check_111 ?_
                refine g_iload_n F 3 rfl rfl dX7_check_112 ?_
                refine g_iadd F dX7_check_113 ?_
                exact g_zretR F rfl rfl (congrArg (fun z => some (iv z)) (show (1 + (((c : Nat) : Int)) : Int) = fwZ (firstZ (unwB m_kd m_lo m_hi m_pa m_pl m_pu m_nc) m_nc) (firstZ (brkB m_rk m_nu m_ct m_sa m_pl m_pu m_nc) m_nr) by rw [firstZ_at (f := unwB m_kd m_lo m_hi m_pa m_pl m_pu m_nc) (i := c) hj (by unfold unwB; simp only [decide_eq_true_eq]; rintro ⟨w1, w2, w3⟩; first | exact absurd w1 (by assumption) | omega) (by omega)]; unfold fwZ; rw [if_pos (by omega)])) dX7_check_114
              · skip
                refine g_iload_n F 1 rfl rfl dX7_check_103 ?_
                refine g_if_eq F (tgt := 111) dX7_check_104 (by decide) ⟨by decide, by decide⟩ (fun c_14 => ?_) (fun c_14 => ?_)
                · skip
                  exfalso; omega
                · skip
                  refine g_iload_n F 0 rfl rfl dX7_check_107 ?_
                  refine g_if_eq F (tgt := 115) dX7_check_108 (by decide) ⟨by decide, by decide⟩ (fun c_15 => ?_) (fun c_15 => ?_)
                  · skip
                    refine g_iinc F 3 rfl ([(1, iv ((((c : Nat) : Int)) + 1)), (3, iv (0)), (2, iv (1)), (0, .ref (m 0))]) rfl (by decide) dX7_check_115 ?_
                    refine g_goto F (tgt := 2) dX7_check_118 (by decide) ?_
                    refine g_lsub ([(0, .ref (m 0)), (1, iv ((((c : Nat) : Int)) + 1))]) [3, 0] rfl ?_
                    exact ih2 (c + 1) (by omega) (fun j w => by rcases (show j < c ∨ j = c by omega) with q | q; exact hj j q; (subst q; unfold unwB; simp only [decide_eq_false_iff_not]; intro q2; apply q2; refine ⟨by assumption, by omega, by omega⟩)) (by omega)
                  · skip
                    exfalso; omega
            · skip
              refine g_aload_n F 1 rfl rfl dX7_check_62 ?_
              refine g_get F hV iX7 0 rfl rfl 5 (by decide) (List.mem_of_getElem? (i := 5) rfl) rfl dX7_check_63 ?_
              refine g_iload_n F 2 rfl rfl dX7_check_66 ?_
              have r_16 := qpa (c)
              refine g_iald F hV 5 rfl (c) (by omega) (by omega) (by decide) dX7_check_67 ?_
              refine g_ldc F (-2000000005) (by decide) (List.mem_of_getElem? (i := 6) rfl) dX7_check_68 ?_
              refine g_icmp_eq F (tgt := 93) dX7_check_70 (by decide) ⟨by omega, by omega⟩ ⟨by decide, by decide⟩ (fun c_17 => ?_) (fun c_17 => ?_)
              · skip
                refine g_iconst F dX7_check_93 ?_
                refine g_istore_n F ([(3, iv (0)), (2, iv (1)), (0, .ref (m 0)), (1, iv (((c : Nat) : Int)))]) rfl rfl (by decide) dX7_check_94 ?_
                refine g_aload_n F 2 rfl rfl dX7_check_95 ?_
                refine g_iload_n F 3 rfl rfl dX7_check_96 ?_
                refine g_callRV F hV (As := [iv (((c : Nat) : Int))]) (rest := []) (kX7_isWithin l D cA m m_nc m_nr m_ke m_so m_bu m_bc m_pu m_qu m_fs m_cd m_un m_hb m_pf m_ef m_kd m_lo m_hi m_co m_pa m_rk m_nu m_ct m_sa m_pl m_pr c (by omega) (hpl) (hpb) (qlo) (qhi)) (cwV 1 F.2.2.2.2.1 gX7_check_X7_isWithin rfl rfl rfl (by decide +kernel) ⟨Nat.le_of_ble_eq_true rfl, Nat.le_of_ble_eq_true rfl⟩) rfl rfl (q0 := 0) rfl [0, 1, 2, 3, 4, 5, 6, 7, 8, 9, 10, 11] rfl rfl rfl (Nat.le_of_ble_eq_true rfl) ⟨Nat.le_of_ble_eq_true rfl, Nat.le_of_ble_eq_true rfl⟩ dX7_check_97 (fun v hv => ?_)
                subst hv
                refine g_eq (st' := [iv (if inBP m_lo m_hi m_pl m_pu c then 1 else 0)]) rfl rfl rfl ?_
                refine g_ifb_eq F (tgt := 111) dX7_check_100 (by decide) (fun c_18 => ?_) (fun c_18 => ?_)
                · skip
                  refine g_iconst F dX7_check_111 ?_
                  refine g_iload_n F 3 rfl rfl dX7_check_112 ?_
                  refine g_iadd F dX7_check_113 ?_
                  exact g_zretR F rfl rfl (congrArg (fun z => some (iv z)) (show (1 + (((c : Nat) : Int)) : Int) = fwZ (firstZ (unwB m_kd m_lo m_hi m_pa m_pl m_pu m_nc) m_nc) (firstZ (brkB m_rk m_nu m_ct m_sa m_pl m_pu m_nc) m_nr) by rw [firstZ_at (f := unwB m_kd m_lo m_hi m_pa m_pl m_pu m_nc) (i := c) hj (by unfold unwB; simp only [decide_eq_true_eq]; rintro ⟨w1, w2, w3⟩; first | exact absurd w1 (by assumption) | omega) (by omega)]; unfold fwZ; rw [if_pos (by omega)])) dX7_check_114
                · skip
                  refine g_iload_n F 1 rfl rfl dX7_check_103 ?_
                  refine g_if_eq F (tgt := 111) dX7_check_104 (by decide) ⟨by decide, by decide⟩ (fun c_19 => ?_) (fun c_19 => ?_)
                  · skip
                    exfalso; omega
                  · skip
                    refine g_iload_n F 0 rfl rfl dX7_check_107 ?_
                    refine g_if_eq F (tgt := 115) dX7_check_108 (by decide) ⟨by decide, by decide⟩ (fun c_20 => ?_) (fun c_20 => ?_)
                    · skip
                      refine g_iinc F 3 rfl ([(1, iv ((((c : Nat) : Int)) + 1)), (3, iv (0)), (2, iv (1)), (0, .ref (m 0))]) rfl (by decide) dX7_check_115 ?_
                      refine g_goto F (tgt := 2) dX7_check_118 (by decide) ?_
                      refine g_lsub ([(0, .ref (m 0)), (1, iv ((((c : Nat) : Int)) + 1))]) [3, 0] rfl ?_
                      exact ih2 (c + 1) (by omega) (fun j w => by rcases (show j < c ∨ j = c by omega) with q | q; exact hj j q; (subst q; unfold unwB; simp only [decide_eq_false_iff_not]; intro q2; apply q2; refine ⟨by assumption, by omega, by omega⟩)) (by omega)
                    · skip
                      exfalso; omega
              · skip
                refine g_aload_n F 1 rfl rfl dX7_check_73 ?_
                refine g_get F hV iX7 0 rfl rfl 16 (by decide) (List.mem_of_getElem? (i := 3) rfl) rfl dX7_check_74 ?_
                refine g_aload_n F 1 rfl rfl dX7_check_77 ?_
                refine g_get F hV iX7 0 rfl rfl 5 (by decide) (List.mem_of_getElem? (i := 5) rfl) rfl dX7_check_78 ?_
                refine g_iload_n F 2 rfl rfl dX7_check_81 ?_
                have r_21 := qpa (c)
                refine g_iald F hV 5 rfl (c) (by omega) (by omega) (by decide) dX7_check_82 ?_
                have r_22 := hpl ((m_pa c).toNat)
                refine g_lald F hV 10 rfl ((m_pa c).toNat) (by omega) (by omega) (by decide) dX7_check_83 ?_
                refine g_lconst F (z := 0) dX7_check_84 (by decide) ?_
                refine g_lcmp_eq F (tgt := 93) dX7_check_85 dX7_check_86 (by decide) ⟨by omega, by omega⟩ ⟨by decide, by decide⟩ (fun c_23 => ?_) (fun c_23 => ?_)
                · skip
                  refine g_iconst F dX7_check_93 ?_
                  refine g_istore_n F ([(3, iv (0)), (2, iv (1)), (0, .ref (m 0)), (1, iv (((c : Nat) : Int)))]) rfl rfl (by decide) dX7_check_94 ?_
                  refine g_aload_n F 2 rfl rfl dX7_check_95 ?_
                  refine g_iload_n F 3 rfl rfl dX7_check_96 ?_
                  refine g_callRV F hV (As := [iv (((c : Nat) : Int))]) (rest := []) (kX7_isWithin l D cA m m_nc m_nr m_ke m_so m_bu m_bc m_pu m_qu m_fs m_cd m_un m_hb m_pf m_ef m_kd m_lo m_hi m_co m_pa m_rk m_nu m_ct m_sa m_pl m_pr c (by omega) (hpl) (hpb) (qlo) (qhi)) (cwV 1 F.2.2.2.2.1 gX7_check_X7_isWithin rfl rfl rfl (by decide +kernel) ⟨Nat.le_of_ble_eq_true rfl, Nat.le_of_ble_eq_true rfl⟩) rfl rfl (q0 := 0) rfl [0, 1, 2, 3, 4, 5, 6, 7, 8, 9, 10, 11] rfl rfl rfl (Nat.le_of_ble_eq_true rfl) ⟨Nat.le_of_ble_eq_true rfl, Nat.le_of_ble_eq_true rfl⟩ dX7_check_97 (fun v hv => ?_)
                  subst hv
                  refine g_eq (st' := [iv (if inBP m_lo m_hi m_pl m_pu c then 1 else 0)]) rfl rfl rfl ?_
                  refine g_ifb_eq F (tgt := 111) dX7_check_100 (by decide) (fun c_24 => ?_) (fun c_24 => ?_)
                  · skip
                    refine g_iconst F dX7_check_111 ?_
                    refine g_iload_n F 3 rfl rfl dX7_check_112 ?_
                    refine g_iadd F dX7_check_113 ?_
                    exact g_zretR F rfl rfl (congrArg (fun z => some (iv z)) (show (1 + (((c : Nat) : Int)) : Int) = fwZ (firstZ (unwB m_kd m_lo m_hi m_pa m_pl m_pu m_nc) m_nc) (firstZ (brkB m_rk m_nu m_ct m_sa m_pl m_pu m_nc) m_nr) by rw [firstZ_at (f := unwB m_kd m_lo m_hi m_pa m_pl m_pu m_nc) (i := c) hj (by unfold unwB; simp only [decide_eq_true_eq]; rintro ⟨w1, w2, w3⟩; first | exact absurd w1 (by assumption) | omega) (by omega)]; unfold fwZ; rw [if_pos (by omega)])) dX7_check_114
                  · skip
                    refine g_iload_n F 1 rfl rfl dX7_check_103 ?_
                    refine g_if_eq F (tgt := 111) dX7_check_104 (by decide) ⟨by decide, by decide⟩ (fun c_25 => ?_) (fun c_25 => ?_)
                    · skip
                      exfalso; omega
                    · skip
                      refine g_iload_n F 0 rfl rfl dX7_check_107 ?_
                      refine g_if_eq F (tgt := 115) dX7_check_108 (by decide) ⟨by decide, by decide⟩ (fun c_26 => ?_) (fun c_26 => ?_)
                      · skip
                        refine g_iinc F 3 rfl ([(1, iv ((((c : Nat) : Int)) + 1)), (3, iv (0)), (2, iv (1)), (0, .ref (m 0))]) rfl (by decide) dX7_check_115 ?_
                        refine g_goto F (tgt := 2) dX7_check_118 (by decide) ?_
                        refine g_lsub ([(0, .ref (m 0)), (1, iv ((((c : Nat) : Int)) + 1))]) [3, 0] rfl ?_
                        exact ih2 (c + 1) (by omega) (fun j w => by rcases (show j < c ∨ j = c by omega) with q | q; exact hj j q; (subst q; unfold unwB; simp only [decide_eq_false_iff_not]; intro q2; apply q2; refine ⟨by assumption, by omega, by omega⟩)) (by omega)
                      · skip
                        exfalso; omega
                · skip
                  refine g_iconst F dX7_check_89 ?_
                  refine g_goto F (tgt := 94) dX7_check_90 (by decide) ?_
                  refine g_istore_n F ([(3, iv (1)), (2, iv (1)), (0, .ref (m 0)), (1, iv (((c : Nat) : Int)))]) rfl rfl (by decide) dX7_check_94 ?_
                  refine g_aload_n F 2 rfl rfl dX7_check_95 ?_
                  refine g_iload_n F 3 rfl rfl dX7_check_96 ?_
                  refine g_callRV F hV (As := [iv (((c : Nat) : Int))]) (rest := []) (kX7_isWithin l D cA m m_nc m_nr m_ke m_so m_bu m_bc m_pu m_qu m_fs m_cd m_un m_hb m_pf m_ef m_kd m_lo m_hi m_co m_pa m_rk m_nu m_ct m_sa m_pl m_pr c (by omega) (hpl) (hpb) (qlo) (qhi)) (cwV 1 F.2.2.2.2.1 gX7_check_X7_isWithin rfl rfl rfl (by decide +kernel) ⟨Nat.le_of_ble_eq_true rfl, Nat.le_of_ble_eq_true rfl⟩) rfl rfl (q0 := 0) rfl [0, 1, 2, 3, 4, 5, 6, 7, 8, 9, 10, 11] rfl rfl rfl (Nat.le_of_ble_eq_true rfl) ⟨Nat.le_of_ble_eq_true rfl, Nat.le_of_ble_eq_true rfl⟩ dX7_check_97 (fun v hv => ?_)
                  subst hv
                  refine g_eq (st' := [iv (if inBP m_lo m_hi m_pl m_pu c then 1 else 0)]) rfl rfl rfl ?_
                  refine g_ifb_eq F (tgt := 111) dX7_check_100 (by decide) (fun c_27 => ?_) (fun c_27 => ?_)
                  · skip
                    refine g_iconst F dX7_check_111 ?_
                    refine g_iload_n F 3 rfl rfl dX7_check_112 ?_
                    refine g_iadd F dX7_check_113 ?_
                    exact g_zretR F rfl rfl (congrArg (fun z => some (iv z)) (show (1 + (((c : Nat) : Int)) : Int) = fwZ (firstZ (unwB m_kd m_lo m_hi m_pa m_pl m_pu m_nc) m_nc) (firstZ (brkB m_rk m_nu m_ct m_sa m_pl m_pu m_nc) m_nr) by rw [firstZ_at (f := unwB m_kd m_lo m_hi m_pa m_pl m_pu m_nc) (i := c) hj (by unfold unwB; simp only [decide_eq_true_eq]; rintro ⟨w1, w2, w3⟩; first | exact absurd w1 (by assumption) | omega) (by omega)]; unfold fwZ; rw [if_pos (by omega)])) dX7_check_114
                  · skip
                    refine g_iload_n F 1 rfl rfl dX7_check_103 ?_
                    refine g_if_eq F (tgt := 111) dX7_check_104 (by decide) ⟨by decide, by decide⟩ (fun c_28 => ?_) (fun c_28 => ?_)
                    · skip
                      exfalso; omega
                    · skip
                      refine g_iload_n F 0 rfl rfl dX7_check_107 ?_
                      refine g_if_eq F (tgt := 115) dX7_check_108 (by decide) ⟨by decide, by decide⟩ (fun c_29 => ?_) (fun c_29 => ?_)
                      · skip
                        exfalso; omega
                      · skip
                        refine g_iconst F dX7_check_111 ?_
                        refine g_iload_n F 3 rfl rfl dX7_check_112 ?_
                        refine g_iadd F dX7_check_113 ?_
                        exact g_zretR F rfl rfl (congrArg (fun z => some (iv z)) (show (1 + (((c : Nat) : Int)) : Int) = fwZ (firstZ (unwB m_kd m_lo m_hi m_pa m_pl m_pu m_nc) m_nc) (firstZ (brkB m_rk m_nu m_ct m_sa m_pl m_pu m_nc) m_nr) by rw [firstZ_at (f := unwB m_kd m_lo m_hi m_pa m_pl m_pu m_nc) (i := c) hj (by unfold unwB; simp only [decide_eq_true_eq]; rintro ⟨w1, w2, w3⟩; first | exact absurd w1 (by assumption) | omega) (by omega)]; unfold fwZ; rw [if_pos (by omega)])) dX7_check_114
        · skip
          refine g_aload_n F 0 rfl rfl dX7_check_19 ?_
          refine g_get F hV iX7 0 rfl rfl 16 (by decide) (List.mem_of_getElem? (i := 3) rfl) rfl dX7_check_20 ?_
          refine g_iload_n F 1 rfl rfl dX7_check_23 ?_
          have r_30 := hpl (c)
          refine g_lald F hV 10 rfl (c) (by omega) (by omega) (by decide) dX7_check_24 ?_
          refine g_aload_n F 0 rfl rfl dX7_check_25 ?_
          refine g_get F hV iX7 0 rfl rfl 17 (by decide) (List.mem_of_getElem? (i := 4) rfl) rfl dX7_check_26 ?_
          refine g_lrem F ⟨⟨by omega, by omega⟩, by omega⟩ ⟨by omega, by omega⟩ (by omega) dX7_check_29 ?_
          refine g_lconst F (z := 0) dX7_check_30 (by decide) ?_
          refine g_lcmp_ne F (tgt := 39) dX7_check_31 dX7_check_32 (by decide) (tmod_64 ⟨by omega, by omega⟩ (by omega)) ⟨by decide, by decide⟩ (fun c_31 => ?_) (fun c_31 => ?_)
          · skip
            refine g_iconst F dX7_check_39 ?_
            refine g_istore_n F ([(2, iv (0)), (0, .ref (m 0)), (1, iv (((c : Nat) : Int)))]) rfl rfl (by decide) dX7_check_40 ?_
            refine g_aload_n F 1 rfl rfl dX7_check_41 ?_
            refine g_get F hV iX7 0 rfl rfl 1 (by decide) (List.mem_of_getElem? (i := 2) rfl) rfl dX7_check_42 ?_
            refine g_iload_n F 2 rfl rfl dX7_check_45 ?_
            have r_32 := qkd (c)
            refine g_iald F hV 1 rfl (c) (by omega) (by omega) (by decide) dX7_check_46 ?_
            refine g_iconst F dX7_check_47 ?_
            refine g_icmp_ne F (tgt := 93) dX7_check_48 (by decide) ⟨by omega, by omega⟩ ⟨by decide, by decide⟩ (fun c_33 => ?_) (fun c_33 => ?_)
            · skip
              refine g_iconst F dX7_check_93 ?_
              refine g_istore_n F ([(3, iv (0)), (2, iv (0)), (0, .ref (m 0)), (1, iv (((c : Nat) : Int)))]) rfl rfl (by decide) dX7_check_94 ?_
              refine g_aload_n F 2 rfl rfl dX7_check_95 ?_
              refine g_iload_n F 3 rfl rfl dX7_check_96 ?_
              refine g_callRV F hV (As := [iv (((c : Nat) : Int))]) (rest := []) (kX7_isWithin l D cA m m_nc m_nr m_ke m_so m_bu m_bc m_pu m_qu m_fs m_cd m_un m_hb m_pf m_ef m_kd m_lo m_hi m_co m_pa m_rk m_nu m_ct m_sa m_pl m_pr c (by omega) (hpl) (hpb) (qlo) (qhi)) (cwV 1 F.2.2.2.2.1 gX7_check_X7_isWithin rfl rfl rfl (by decide +kernel) ⟨Nat.le_of_ble_eq_true rfl, Nat.le_of_ble_eq_true rfl⟩) rfl rfl (q0 := 0) rfl [0, 1, 2, 3, 4, 5, 6, 7, 8, 9, 10, 11] rfl rfl rfl (Nat.le_of_ble_eq_true rfl) ⟨Nat.le_of_ble_eq_true rfl, Nat.le_of_ble_eq_true rfl⟩ dX7_check_97 (fun v hv => ?_)
              subst hv
              refine g_eq (st' := [iv (if inBP m_lo m_hi m_pl m_pu c then 1 else 0)]) rfl rfl rfl ?_
              refine g_ifb_eq F (tgt := 111) dX7_check_100 (by decide) (fun c_34 => ?_) (fun c_34 => ?_)
              · skip
                refine g_iconst F dX7_check_111 ?_
                refine g_iload_n F 3 rfl rfl dX7_check_112 ?_
                refine g_iadd F dX7_check_113 ?_
                exact g_zretR F rfl rfl (congrArg (fun z => some (iv z)) (show (1 + (((c : Nat) : Int)) : Int) = fwZ (firstZ (unwB m_kd m_lo m_hi m_pa m_pl m_pu m_nc) m_nc) (firstZ (brkB m_rk m_nu m_ct m_sa m_pl m_pu m_nc) m_nr) by rw [firstZ_at (f := unwB m_kd m_lo m_hi m_pa m_pl m_pu m_nc) (i := c) hj (by unfold unwB; simp only [decide_eq_true_eq]; rintro ⟨w1, w2, w3⟩; first | exact absurd w1 (by assumption) | omega) (by omega)]; unfold fwZ; rw [if_pos (by omega)])) dX7_check_114
              · skip
                refine g_iload_n F 1 rfl rfl dX7_check_103 ?_
                refine g_if_eq F (tgt := 111) dX7_check_104 (by decide) ⟨by decide, by decide⟩ (fun c_35 => ?_) (fun c_35 => ?_)
                · skip
                  refine g_iconst F dX7_check_111 ?_
                  refine g_iload_n F 3 rfl rfl dX7_check_112 ?_
                  refine g_iadd F dX7_check_113 ?_
                  exact g_zretR F rfl rfl (congrArg (fun z => some (iv z)) (show (1 + (((c : Nat) : Int)) : Int) = fwZ (firstZ (unwB m_kd m_lo m_hi m_pa m_pl m_pu m_nc) m_nc) (firstZ (brkB m_rk m_nu m_ct m_sa m_pl m_pu m_nc) m_nr) by rw [firstZ_at (f := unwB m_kd m_lo m_hi m_pa m_pl m_pu m_nc) (i := c) hj (by unfold unwB; simp only [decide_eq_true_eq]; rintro ⟨w1, w2, w3⟩; first | exact absurd w1 (by assumption) | omega) (by omega)]; unfold fwZ; rw [if_pos (by omega)])) dX7_check_114
                · skip
                  exfalso; omega
            · skip
              refine g_aload_n F 1 rfl rfl dX7_check_51 ?_
              refine g_get F hV iX7 0 rfl rfl 16 (by decide) (List.mem_of_getElem? (i := 3) rfl) rfl dX7_check_52 ?_
              refine g_iload_n F 2 rfl rfl dX7_check_55 ?_
              have r_36 := hpl (c)
              refine g_lald F hV 10 rfl (c) (by omega) (by omega) (by decide) dX7_check_56 ?_
              refine g_lconst F (z := 0) dX7_check_57 (by decide) ?_
              refine g_lcmp_ne F (tgt := 93) dX7_check_58 dX7_check_59 (by decide) ⟨by omega, by omega⟩ ⟨by decide, by decide⟩ (fun c_37 => ?_) (fun c_37 => ?_)
              · skip
                refine g_iconst F dX7_check_93 ?_
                refine g_istore_n F ([(3, iv (0)), (2, iv (0)), (0, .ref (m 0)), (1, iv (((c : Nat) : Int)))]) rfl rfl (by decide) dX7_check_94 ?_
                refine g_aload_n F 2 rfl rfl dX7_check_95 ?_
                refine g_iload_n F 3 rfl rfl dX7_check_96 ?_
                refine g_callRV F hV (As := [iv (((c : Nat) : Int))]) (rest := []) (kX7_isWithin l D cA m m_nc m_nr m_ke m_so m_bu m_bc m_pu m_qu m_fs m_cd m_un m_hb m_pf m_ef m_kd m_lo m_hi m_co m_pa m_rk m_nu m_ct m_sa m_pl m_pr c (by omega) (hpl) (hpb) (qlo) (qhi)) (cwV 1 F.2.2.2.2.1 gX7_check_X7_isWithin rfl rfl rfl (by decide +kernel) ⟨Nat.le_of_ble_eq_true rfl, Nat.le_of_ble_eq_true rfl⟩) rfl rfl (q0 := 0) rfl [0, 1, 2, 3, 4, 5, 6, 7, 8, 9, 10, 11] rfl rfl rfl (Nat.le_of_ble_eq_true rfl) ⟨Nat.le_of_ble_eq_true rfl, Nat.le_of_ble_eq_true rfl⟩ dX7_check_97 (fun v hv => ?_)
                subst hv
                refine g_eq (st' := [iv (if inBP m_lo m_hi m_pl m_pu c then 1 else 0)]) rfl rfl rfl ?_
                refine g_ifb_eq F (tgt := 111) dX7_check_100 (by decide) (fun c_38 => ?_) (fun c_38 => ?_)
                · skip
                  refine g_iconst F dX7_check_111 ?_
                  refine g_iload_n F 3 rfl rfl dX7_check_112 ?_
                  refine g_iadd F dX7_check_113 ?_
                  exact g_zretR F rfl rfl (congrArg (fun z => some (iv z)) (show (1 + (((c : Nat) : Int)) : Int) = fwZ (firstZ (unwB m_kd m_lo m_hi m_pa m_pl m_pu m_nc) m_nc) (firstZ (brkB m_rk m_nu m_ct m_sa m_pl m_pu m_nc) m_nr) by rw [firstZ_at (f := unwB m_kd m_lo m_hi m_pa m_pl m_pu m_nc) (i := c) hj (by unfold unwB; simp only [decide_eq_true_eq]; rintro ⟨w1, w2, w3⟩; first | exact absurd w1 (by assumption) | omega) (by omega)]; unfold fwZ; rw [if_pos (by omega)])) dX7_check_114
                · skip
                  refine g_iload_n F 1 rfl rfl dX7_check_103 ?_
                  refine g_if_eq F (tgt := 111) dX7_check_104 (by decide) ⟨by decide, by decide⟩ (fun c_39 => ?_) (fun c_39 => ?_)
                  · skip
                    refine g_iconst F dX7_check_111 ?_
                    refine g_iload_n F 3 rfl rfl dX7_check_112 ?_
                    refine g_iadd F dX7_check_113 ?_
                    exact g_zretR F rfl rfl (congrArg (fun z => some (iv z)) (show (1 + (((c : Nat) : Int)) : Int) = fwZ (firstZ (unwB m_kd m_lo m_hi m_pa m_pl m_pu m_nc) m_nc) (firstZ (brkB m_rk m_nu m_ct m_sa m_pl m_pu m_nc) m_nr) by rw [firstZ_at (f := unwB m_kd m_lo m_hi m_pa m_pl m_pu m_nc) (i := c) hj (by unfold unwB; simp only [decide_eq_true_eq]; rintro ⟨w1, w2, w3⟩; first | exact absurd w1 (by assumption) | omega) (by omega)]; unfold fwZ; rw [if_pos (by omega)])) dX7_check_114
                  · skip
                    exfalso; omega
              · skip
                refine g_aload_n F 1 rfl rfl dX7_check_62 ?_
                refine g_get F hV iX7 0 rfl rfl 5 (by decide) (List.mem_of_getElem? (i := 5) rfl) rfl dX7_check_63 ?_
                refine g_iload_n F 2 rfl rfl dX7_check_66 ?_
                have r_40 := qpa (c)
                refine g_iald F hV 5 rfl (c) (by omega) (by omega) (by decide) dX7_check_67 ?_
                refine g_ldc F (-2000000005) (by decide) (List.mem_of_getElem? (i := 6) rfl) dX7_check_68 ?_
                refine g_icmp_eq F (tgt := 93) dX7_check_70 (by decide) ⟨by omega, by omega⟩ ⟨by decide, by decide⟩ (fun c_41 => ?_) (fun c_41 => ?_)
                · skip
                  refine g_iconst F dX7_check_93 ?_
                  refine g_istore_n F ([(3, iv (0)), (2, iv (0)), (0, .ref (m 0)), (1, iv (((c : Nat) : Int)))]) rfl rfl (by decide) dX7_check_94 ?_
                  refine g_aload_n F 2 rfl rfl dX7_check_95 ?_
                  refine g_iload_n F 3 rfl rfl dX7_check_96 ?_
                  refine g_callRV F hV (As := [iv (((c : Nat) : Int))]) (rest := []) (kX7_isWithin l D cA m m_nc m_nr m_ke m_so m_bu m_bc m_pu m_qu m_fs m_cd m_un m_hb m_pf m_ef m_kd m_lo m_hi m_co m_pa m_rk m_nu m_ct m_sa m_pl m_pr c (by omega) (hpl) (hpb) (qlo) (qhi)) (cwV 1 F.2.2.2.2.1 gX7_check_X7_isWithin rfl rfl rfl (by decide +kernel) ⟨Nat.le_of_ble_eq_true rfl, Nat.le_of_ble_eq_true rfl⟩) rfl rfl (q0 := 0) rfl [0, 1, 2, 3, 4, 5, 6, 7, 8, 9, 10, 11] rfl rfl rfl (Nat.le_of_ble_eq_true rfl) ⟨Nat.le_of_ble_eq_true rfl, Nat.le_of_ble_eq_true rfl⟩ dX7_check_97 (fun v hv => ?_)
                  subst hv
                  refine g_eq (st' := [iv (if inBP m_lo m_hi m_pl m_pu c then 1 else 0)]) rfl rfl rfl ?_
                  refine g_ifb_eq F (tgt := 111) dX7_check_100 (by decide) (fun c_42 => ?_) (fun c_42 => ?_)
                  · skip
                    refine g_iconst F dX7_check_111 ?_
                    refine g_iload_n F 3 rfl rfl dX7_check_112 ?_
                    refine g_iadd F dX7_check_113 ?_
                    exact g_zretR F rfl rfl (congrArg (fun z => some (iv z)) (show (1 + (((c : Nat) : Int)) : Int) = fwZ (firstZ (unwB m_kd m_lo m_hi m_pa m_pl m_pu m_nc) m_nc) (firstZ (brkB m_rk m_nu m_ct m_sa m_pl m_pu m_nc) m_nr) by rw [firstZ_at (f := unwB m_kd m_lo m_hi m_pa m_pl m_pu m_nc) (i := c) hj (by unfold unwB; simp only [decide_eq_true_eq]; rintro ⟨w1, w2, w3⟩; first | exact absurd w1 (by assumption) | omega) (by omega)]; unfold fwZ; rw [if_pos (by omega)])) dX7_check_114
                  · skip
                    refine g_iload_n F 1 rfl rfl dX7_check_103 ?_
                    refine g_if_eq F (tgt := 111) dX7_check_104 (by decide) ⟨by decide, by decide⟩ (fun c_43 => ?_) (fun c_43 => ?_)
                    · skip
                      refine g_iconst F dX7_check_111 ?_
                      refine g_iload_n F 3 rfl rfl dX7_check_112 ?_
                      refine g_iadd F dX7_check_113 ?_
                      exact g_zretR F rfl rfl (congrArg (fun z => some (iv z)) (show (1 + (((c : Nat) : Int)) : Int) = fwZ (firstZ (unwB m_kd m_lo m_hi m_pa m_pl m_pu m_nc) m_nc) (firstZ (brkB m_rk m_nu m_ct m_sa m_pl m_pu m_nc) m_nr) by rw [firstZ_at (f := unwB m_kd m_lo m_hi m_pa m_pl m_pu m_nc) (i := c) hj (by unfold unwB; simp only [decide_eq_true_eq]; rintro ⟨w1, w2, w3⟩; first | exact absurd w1 (by assumption) | omega) (by omega)]; unfold fwZ; rw [if_pos (by omega)])) dX7_check_114
                    · skip
                      exfalso; omega
                · skip
                  refine g_aload_n F 1 rfl rfl dX7_check_73 ?_
                  refine g_get F hV iX7 0 rfl rfl 16 (by decide) (List.mem_of_getElem? (i := 3) rfl) rfl dX7_check_74 ?_
                  refine g_aload_n F 1 rfl rfl dX7_check_77 ?_
                  refine g_get F hV iX7 0 rfl rfl 5 (by decide) (List.mem_of_getElem? (i := 5) rfl) rfl dX7_check_78 ?_
                  refine g_iload_n F 2 rfl rfl dX7_check_81 ?_
                  have r_44 := qpa (c)
                  refine g_iald F hV 5 rfl (c) (by omega) (by omega) (by decide) dX7_check_82 ?_
                  have r_45 := hpl ((m_pa c).toNat)
                  refine g_lald F hV 10 rfl ((m_pa c).toNat) (by omega) (by omega) (by decide) dX7_check_83 ?_
                  refine g_lconst F (z := 0) dX7_check_84 (by decide) ?_
                  refine g_lcmp_eq F (tgt := 93) dX7_check_85 dX7_check_86 (by decide) ⟨by omega, by omega⟩ ⟨by decide, by decide⟩ (fun c_46 => ?_) (fun c_46 => ?_)
                  · skip
                    refine g_iconst F dX7_check_93 ?_
                    refine g_istore_n F ([(3, iv (0)), (2, iv (0)), (0, .ref (m 0)), (1, iv (((c : Nat) : Int)))]) rfl rfl (by decide) dX7_check_94 ?_
                    refine g_aload_n F 2 rfl rfl dX7_check_95 ?_
                    refine g_iload_n F 3 rfl rfl dX7_check_96 ?_
                    refine g_callRV F hV (As := [iv (((c : Nat) : Int))]) (rest := []) (kX7_isWithin l D cA m m_nc m_nr m_ke m_so m_bu m_bc m_pu m_qu m_fs m_cd m_un m_hb m_pf m_ef m_kd m_lo m_hi m_co m_pa m_rk m_nu m_ct m_sa m_pl m_pr c (by omega) (hpl) (hpb) (qlo) (qhi)) (cwV 1 F.2.2.2.2.1 gX7_check_X7_isWithin rfl rfl rfl (by decide +kernel) ⟨Nat.le_of_ble_eq_true rfl, Nat.le_of_ble_eq_true rfl⟩) rfl rfl (q0 := 0) rfl [0, 1, 2, 3, 4, 5, 6, 7, 8, 9, 10, 11] rfl rfl rfl (Nat.le_of_ble_eq_true rfl) ⟨Nat.le_of_ble_eq_true rfl, Nat.le_of_ble_eq_true rfl⟩ dX7_check_97 (fun v hv => ?_)
                    subst hv
                    refine g_eq (st' := [iv (if inBP m_lo m_hi m_pl m_pu c then 1 else 0)]) rfl rfl rfl ?_
                    refine g_ifb_eq F (tgt := 111) dX7_check_100 (by decide) (fun c_47 => ?_) (fun c_47 => ?_)
                    · skip
                      refine g_iconst F dX7_check_111 ?_
                      refine g_iload_n F 3 rfl rfl dX7_check_112 ?_
                      refine g_iadd F dX7_check_113 ?_
                      exact g_zretR F rfl rfl (congrArg (fun z => some (iv z)) (show (1 + (((c : Nat) : Int)) : Int) = fwZ (firstZ (unwB m_kd m_lo m_hi m_pa m_pl m_pu m_nc) m_nc) (firstZ (brkB m_rk m_nu m_ct m_sa m_pl m_pu m_nc) m_nr) by rw [firstZ_at (f := unwB m_kd m_lo m_hi m_pa m_pl m_pu m_nc) (i := c) hj (by unfold unwB; simp only [decide_eq_true_eq]; rintro ⟨w1, w2, w3⟩; first | exact absurd w1 (by assumption) | omega) (by omega)]; unfold fwZ; rw [if_pos (by omega)])) dX7_check_114
                    · skip
                      refine g_iload_n F 1 rfl rfl dX7_check_103 ?_
                      refine g_if_eq F (tgt := 111) dX7_check_104 (by decide) ⟨by decide, by decide⟩ (fun c_48 => ?_) (fun c_48 => ?_)
                      · skip
                        refine g_iconst F dX7_check_111 ?_
                        refine g_iload_n F 3 rfl rfl dX7_check_112 ?_
                        refine g_iadd F dX7_check_113 ?_
                        exact g_zretR F rfl rfl (congrArg (fun z => some (iv z)) (show (1 + (((c : Nat) : Int)) : Int) = fwZ (firstZ (unwB m_kd m_lo m_hi m_pa m_pl m_pu m_nc) m_nc) (firstZ (brkB m_rk m_nu m_ct m_sa m_pl m_pu m_nc) m_nr) by rw [firstZ_at (f := unwB m_kd m_lo m_hi m_pa m_pl m_pu m_nc) (i := c) hj (by unfold unwB; simp only [decide_eq_true_eq]; rintro ⟨w1, w2, w3⟩; first | exact absurd w1 (by assumption) | omega) (by omega)]; unfold fwZ; rw [if_pos (by omega)])) dX7_check_114
                      · skip
                        exfalso; omega
                  · skip
                    refine g_iconst F dX7_check_89 ?_
                    refine g_goto F (tgt := 94) dX7_check_90 (by decide) ?_
                    refine g_istore_n F ([(3, iv (1)), (2, iv (0)), (0, .ref (m 0)), (1, iv (((c : Nat) : Int)))]) rfl rfl (by decide) dX7_check_94 ?_
                    refine g_aload_n F 2 rfl rfl dX7_check_95 ?_
                    refine g_iload_n F 3 rfl rfl dX7_check_96 ?_
                    refine g_callRV F hV (As := [iv (((c : Nat) : Int))]) (rest := []) (kX7_isWithin l D cA m m_nc m_nr m_ke m_so m_bu m_bc m_pu m_qu m_fs m_cd m_un m_hb m_pf m_ef m_kd m_lo m_hi m_co m_pa m_rk m_nu m_ct m_sa m_pl m_pr c (by omega) (hpl) (hpb) (qlo) (qhi)) (cwV 1 F.2.2.2.2.1 gX7_check_X7_isWithin rfl rfl rfl (by decide +kernel) ⟨Nat.le_of_ble_eq_true rfl, Nat.le_of_ble_eq_true rfl⟩) rfl rfl (q0 := 0) rfl [0, 1, 2, 3, 4, 5, 6, 7, 8, 9, 10, 11] rfl rfl rfl (Nat.le_of_ble_eq_true rfl) ⟨Nat.le_of_ble_eq_true rfl, Nat.le_of_ble_eq_true rfl⟩ dX7_check_97 (fun v hv => ?_)
                    subst hv
                    refine g_eq (st' := [iv (if inBP m_lo m_hi m_pl m_pu c then 1 else 0)]) rfl rfl rfl ?_
                    refine g_ifb_eq F (tgt := 111) dX7_check_100 (by decide) (fun c_49 => ?_) (fun c_49 => ?_)
                    · skip
                      refine g_iconst F dX7_check_111 ?_
                      refine g_iload_n F 3 rfl rfl dX7_check_112 ?_
                      refine g_iadd F dX7_check_113 ?_
                      exact g_zretR F rfl rfl (congrArg (fun z => some (iv z)) (show (1 + (((c : Nat) : Int)) : Int) = fwZ (firstZ (unwB m_kd m_lo m_hi m_pa m_pl m_pu m_nc) m_nc) (firstZ (brkB m_rk m_nu m_ct m_sa m_pl m_pu m_nc) m_nr) by rw [firstZ_at (f := unwB m_kd m_lo m_hi m_pa m_pl m_pu m_nc) (i := c) hj (by unfold unwB; simp only [decide_eq_true_eq]; rintro ⟨w1, w2, w3⟩; first | exact absurd w1 (by assumption) | omega) (by omega)]; unfold fwZ; rw [if_pos (by omega)])) dX7_check_114
                    · skip
                      refine g_iload_n F 1 rfl rfl dX7_check_103 ?_
                      refine g_if_eq F (tgt := 111) dX7_check_104 (by decide) ⟨by decide, by decide⟩ (fun c_50 => ?_) (fun c_50 => ?_)
                      · skip
                        refine g_iconst F dX7_check_111 ?_
                        refine g_iload_n F 3 rfl rfl dX7_check_112 ?_
                        refine g_iadd F dX7_check_113 ?_
                        exact g_zretR F rfl rfl (congrArg (fun z => some (iv z)) (show (1 + (((c : Nat) : Int)) : Int) = fwZ (firstZ (unwB m_kd m_lo m_hi m_pa m_pl m_pu m_nc) m_nc) (firstZ (brkB m_rk m_nu m_ct m_sa m_pl m_pu m_nc) m_nr) by rw [firstZ_at (f := unwB m_kd m_lo m_hi m_pa m_pl m_pu m_nc) (i := c) hj (by unfold unwB; simp only [decide_eq_true_eq]; rintro ⟨w1, w2, w3⟩; first | exact absurd w1 (by assumption) | omega) (by omega)]; unfold fwZ; rw [if_pos (by omega)])) dX7_check_114
                      · skip
                        exfalso; omega
          · skip
            refine g_iconst F dX7_check_35 ?_
            refine g_goto F (tgt := 40) dX7_check_36 (by decide) ?_
            refine g_istore_n F ([(2, iv (1)), (0, .ref (m 0)), (1, iv (((c : Nat) : Int)))]) rfl rfl (by decide) dX7_check_40 ?_
            refine g_aload_n F 1 rfl rfl dX7_check_41 ?_
            refine g_get F hV iX7 0 rfl rfl 1 (by decide) (List.mem_of_getElem? (i := 2) rfl) rfl dX7_check_42 ?_
            refine g_iload_n F 2 rfl rfl dX7_check_45 ?_
            have r_51 := qkd (c)
            refine g_iald F hV 1 rfl (c) (by omega) (by omega) (by decide) dX7_check_46 ?_
            refine g_iconst F dX7_check_47 ?_
            refine g_icmp_ne F (tgt := 93) dX7_check_48 (by decide) ⟨by omega, by omega⟩ ⟨by decide, by decide⟩ (fun c_52 => ?_) (fun c_52 => ?_)
            · skip
              refine g_iconst F dX7_check_93 ?_
              refine g_istore_n F ([(3, iv (0)), (2, iv (1)), (0, .ref (m 0)), (1, iv (((c : Nat) : Int)))]) rfl rfl (by decide) dX7_check_94 ?_
              refine g_aload_n F 2 rfl rfl dX7_check_95 ?_
              refine g_iload_n F 3 rfl rfl dX7_check_96 ?_
              refine g_callRV F hV (As := [iv (((c : Nat) : Int))]) (rest := []) (kX7_isWithin l D cA m m_nc m_nr m_ke m_so m_bu m_bc m_pu m_qu m_fs m_cd m_un m_hb m_pf m_ef m_kd m_lo m_hi m_co m_pa m_rk m_nu m_ct m_sa m_pl m_pr c (by omega) (hpl) (hpb) (qlo) (qhi)) (cwV 1 F.2.2.2.2.1 gX7_check_X7_isWithin rfl rfl rfl (by decide +kernel) ⟨Nat.le_of_ble_eq_true rfl, Nat.le_of_ble_eq_true rfl⟩) rfl rfl (q0 := 0) rfl [0, 1, 2, 3, 4, 5, 6, 7, 8, 9, 10, 11] rfl rfl rfl (Nat.le_of_ble_eq_true rfl) ⟨Nat.le_of_ble_eq_true rfl, Nat.le_of_ble_eq_true rfl⟩ dX7_check_97 (fun v hv => ?_)
              subst hv
              refine g_eq (st' := [iv (if inBP m_lo m_hi m_pl m_pu c then 1 else 0)]) rfl rfl rfl ?_
              refine g_ifb_eq F (tgt := 111) dX7_check_100 (by decide) (fun c_53 => ?_) (fun c_53 => ?_)
              · skip
                refine g_iconst F dX7_check_111 ?_
                refine g_iload_n F 3 rfl rfl dX7_check_112 ?_
                refine g_iadd F dX7_check_113 ?_
                exact g_zretR F rfl rfl (congrArg (fun z => some (iv z)) (show (1 + (((c : Nat) : Int)) : Int) = fwZ (firstZ (unwB m_kd m_lo m_hi m_pa m_pl m_pu m_nc) m_nc) (firstZ (brkB m_rk m_nu m_ct m_sa m_pl m_pu m_nc) m_nr) by rw [firstZ_at (f := unwB m_kd m_lo m_hi m_pa m_pl m_pu m_nc) (i := c) hj (by unfold unwB; simp only [decide_eq_true_eq]; rintro ⟨w1, w2, w3⟩; first | exact absurd w1 (by assumption) | omega) (by omega)]; unfold fwZ; rw [if_pos (by omega)])) dX7_check_114
              · skip
                refine g_iload_n F 1 rfl rfl dX7_check_103 ?_
                refine g_if_eq F (tgt := 111) dX7_check_104 (by decide) ⟨by decide, by decide⟩ (fun c_54 => ?_) (fun c_54 => ?_)
                · skip
                  exfalso; omega
                · skip
                  refine g_iload_n F 0 rfl rfl dX7_check_107 ?_
                  refine g_if_eq F (tgt := 115) dX7_check_108 (by decide) ⟨by decide, by decide⟩ (fun c_55 => ?_) (fun c_55 => ?_)
                  · skip
                    refine g_iinc F 3 rfl ([(1, iv ((((c : Nat) : Int)) + 1)), (3, iv (0)), (2, iv (1)), (0, .ref (m 0))]) rfl (by decide) dX7_check_115 ?_
                    refine g_goto F (tgt := 2) dX7_check_118 (by decide) ?_
                    refine g_lsub ([(0, .ref (m 0)), (1, iv ((((c : Nat) : Int)) + 1))]) [3, 0] rfl ?_
                    exact ih2 (c + 1) (by omega) (fun j w => by rcases (show j < c ∨ j = c by omega) with q | q; exact hj j q; (subst q; unfold unwB; simp only [decide_eq_false_iff_not]; intro q2; apply q2; refine ⟨by assumption, by omega, by omega⟩)) (by omega)
                  · skip
                    exfalso; omega
            · skip
              refine g_aload_n F 1 rfl rfl dX7_check_51 ?_
              refine g_get F hV iX7 0 rfl rfl 16 (by decide) (List.mem_of_getElem? (i := 3) rfl) rfl dX7_check_52 ?_
              refine g_iload_n F 2 rfl rfl dX7_check_55 ?_
              have r_56 := hpl (c)
              refine g_lald F hV 10 rfl (c) (by omega) (by omega) (by decide) dX7_check_56 ?_
              refine g_lconst F (z := 0) dX7_check_57 (by decide) ?_
              refine g_lcmp_ne F (tgt := 93) dX7_check_58 dX7_check_59 (by decide) ⟨by omega, by omega⟩ ⟨by decide, by decide⟩ (fun c_57 => ?_) (fun c_57 => ?_)
              · skip
                refine g_iconst F dX7_check_93 ?_
                refine g_istore_n F ([(3, iv (0)), (2, iv (1)), (0, .ref (m 0)), (1, iv (((c : Nat) : Int)))]) rfl rfl (by decide) dX7_check_94 ?_
                refine g_aload_n F 2 rfl rfl dX7_check_95 ?_
                refine g_iload_n F 3 rfl rfl dX7_check_96 ?_
                refine g_callRV F hV (As := [iv (((c : Nat) : Int))]) (rest := []) (kX7_isWithin l D cA m m_nc m_nr m_ke m_so m_bu m_bc m_pu m_qu m_fs m_cd m_un m_hb m_pf m_ef m_kd m_lo m_hi m_co m_pa m_rk m_nu m_ct m_sa m_pl m_pr c (by omega) (hpl) (hpb) (qlo) (qhi)) (cwV 1 F.2.2.2.2.1 gX7_check_X7_isWithin rfl rfl rfl (by decide +kernel) ⟨Nat.le_of_ble_eq_true rfl, Nat.le_of_ble_eq_true rfl⟩) rfl rfl (q0 := 0) rfl [0, 1, 2, 3, 4, 5, 6, 7, 8, 9, 10, 11] rfl rfl rfl (Nat.le_of_ble_eq_true rfl) ⟨Nat.le_of_ble_eq_true rfl, Nat.le_of_ble_eq_true rfl⟩ dX7_check_97 (fun v hv => ?_)
                subst hv
                refine g_eq (st' := [iv (if inBP m_lo m_hi m_pl m_pu c then 1 else 0)]) rfl rfl rfl ?_
                refine g_ifb_eq F (tgt := 111) dX7_check_100 (by decide) (fun c_58 => ?_) (fun c_58 => ?_)
                · skip
                  refine g_iconst F dX7_check_111 ?_
                  refine g_iload_n F 3 rfl rfl dX7_check_112 ?_
                  refine g_iadd F dX7_check_113 ?_
                  exact g_zretR F rfl rfl (congrArg (fun z => some (iv z)) (show (1 + (((c : Nat) : Int)) : Int) = fwZ (firstZ (unwB m_kd m_lo m_hi m_pa m_pl m_pu m_nc) m_nc) (firstZ (brkB m_rk m_nu m_ct m_sa m_pl m_pu m_nc) m_nr) by rw [firstZ_at (f := unwB m_kd m_lo m_hi m_pa m_pl m_pu m_nc) (i := c) hj (by unfold unwB; simp only [decide_eq_true_eq]; rintro ⟨w1, w2, w3⟩; first | exact absurd w1 (by assumption) | omega) (by omega)]; unfold fwZ; rw [if_pos (by omega)])) dX7_check_114
                · skip
                  refine g_iload_n F 1 rfl rfl dX7_check_103 ?_
                  refine g_if_eq F (tgt := 111) dX7_check_104 (by decide) ⟨by decide, by decide⟩ (fun c_59 => ?_) (fun c_59 => ?_)
                  · skip
                    exfalso; omega
                  · skip
                    refine g_iload_n F 0 rfl rfl dX7_check_107 ?_
                    refine g_if_eq F (tgt := 115) dX7_check_108 (by decide) ⟨by decide, by decide⟩ (fun c_60 => ?_) (fun c_60 => ?_)
                    · skip
                      refine g_iinc F 3 rfl ([(1, iv ((((c : Nat) : Int)) + 1)), (3, iv (0)), (2, iv (1)), (0, .ref (m 0))]) rfl (by decide) dX7_check_115 ?_
                      refine g_goto F (tgt := 2) dX7_check_118 (by decide) ?_
                      refine g_lsub ([(0, .ref (m 0)), (1, iv ((((c : Nat) : Int)) + 1))]) [3, 0] rfl ?_
                      exact ih2 (c + 1) (by omega) (fun j w => by rcases (show j < c ∨ j = c by omega) with q | q; exact hj j q; (subst q; unfold unwB; simp only [decide_eq_false_iff_not]; intro q2; apply q2; refine ⟨by assumption, by omega, by omega⟩)) (by omega)
                    · skip
                      exfalso; omega
              · skip
                refine g_aload_n F 1 rfl rfl dX7_check_62 ?_
                refine g_get F hV iX7 0 rfl rfl 5 (by decide) (List.mem_of_getElem? (i := 5) rfl) rfl dX7_check_63 ?_
                refine g_iload_n F 2 rfl rfl dX7_check_66 ?_
                have r_61 := qpa (c)
                refine g_iald F hV 5 rfl (c) (by omega) (by omega) (by decide) dX7_check_67 ?_
                refine g_ldc F (-2000000005) (by decide) (List.mem_of_getElem? (i := 6) rfl) dX7_check_68 ?_
                refine g_icmp_eq F (tgt := 93) dX7_check_70 (by decide) ⟨by omega, by omega⟩ ⟨by decide, by decide⟩ (fun c_62 => ?_) (fun c_62 => ?_)
                · skip
                  refine g_iconst F dX7_check_93 ?_
                  refine g_istore_n F ([(3, iv (0)), (2, iv (1)), (0, .ref (m 0)), (1, iv (((c : Nat) : Int)))]) rfl rfl (by decide) dX7_check_94 ?_
                  refine g_aload_n F 2 rfl rfl dX7_check_95 ?_
                  refine g_iload_n F 3 rfl rfl dX7_check_96 ?_
                  refine g_callRV F hV (As := [iv (((c : Nat) : Int))]) (rest := []) (kX7_isWithin l D cA m m_nc m_nr m_ke m_so m_bu m_bc m_pu m_qu m_fs m_cd m_un m_hb m_pf m_ef m_kd m_lo m_hi m_co m_pa m_rk m_nu m_ct m_sa m_pl m_pr c (by omega) (hpl) (hpb) (qlo) (qhi)) (cwV 1 F.2.2.2.2.1 gX7_check_X7_isWithin rfl rfl rfl (by decide +kernel) ⟨Nat.le_of_ble_eq_true rfl, Nat.le_of_ble_eq_true rfl⟩) rfl rfl (q0 := 0) rfl [0, 1, 2, 3, 4, 5, 6, 7, 8, 9, 10, 11] rfl rfl rfl (Nat.le_of_ble_eq_true rfl) ⟨Nat.le_of_ble_eq_true rfl, Nat.le_of_ble_eq_true rfl⟩ dX7_check_97 (fun v hv => ?_)
                  subst hv
                  refine g_eq (st' := [iv (if inBP m_lo m_hi m_pl m_pu c then 1 else 0)]) rfl rfl rfl ?_
                  refine g_ifb_eq F (tgt := 111) dX7_check_100 (by decide) (fun c_63 => ?_) (fun c_63 => ?_)
                  · skip
                    refine g_iconst F dX7_check_111 ?_
                    refine g_iload_n F 3 rfl rfl dX7_check_112 ?_
                    refine g_iadd F dX7_check_113 ?_
                    exact g_zretR F rfl rfl (congrArg (fun z => some (iv z)) (show (1 + (((c : Nat) : Int)) : Int) = fwZ (firstZ (unwB m_kd m_lo m_hi m_pa m_pl m_pu m_nc) m_nc) (firstZ (brkB m_rk m_nu m_ct m_sa m_pl m_pu m_nc) m_nr) by rw [firstZ_at (f := unwB m_kd m_lo m_hi m_pa m_pl m_pu m_nc) (i := c) hj (by unfold unwB; simp only [decide_eq_true_eq]; rintro ⟨w1, w2, w3⟩; first | exact absurd w1 (by assumption) | omega) (by omega)]; unfold fwZ; rw [if_pos (by omega)])) dX7_check_114
                  · skip
                    refine g_iload_n F 1 rfl rfl dX7_check_103 ?_
                    refine g_if_eq F (tgt := 111) dX7_check_104 (by decide) ⟨by decide, by decide⟩ (fun c_64 => ?_) (fun c_64 => ?_)
                    · skip
                      exfalso; omega
                    · skip
                      refine g_iload_n F 0 rfl rfl dX7_check_107 ?_
                      refine g_if_eq F (tgt := 115) dX7_check_108 (by decide) ⟨by decide, by decide⟩ (fun c_65 => ?_) (fun c_65 => ?_)
                      · skip
                        refine g_iinc F 3 rfl ([(1, iv ((((c : Nat) : Int)) + 1)), (3, iv (0)), (2, iv (1)), (0, .ref (m 0))]) rfl (by decide) dX7_check_115 ?_
                        refine g_goto F (tgt := 2) dX7_check_118 (by decide) ?_
                        refine g_lsub ([(0, .ref (m 0)), (1, iv ((((c : Nat) : Int)) + 1))]) [3, 0] rfl ?_
                        exact ih2 (c + 1) (by omega) (fun j w => by rcases (show j < c ∨ j = c by omega) with q | q; exact hj j q; (subst q; unfold unwB; simp only [decide_eq_false_iff_not]; intro q2; apply q2; refine ⟨by assumption, by omega, by omega⟩)) (by omega)
                      · skip
                        exfalso; omega
                · skip
                  refine g_aload_n F 1 rfl rfl dX7_check_73 ?_
                  refine g_get F hV iX7 0 rfl rfl 16 (by decide) (List.mem_of_getElem? (i := 3) rfl) rfl dX7_check_74 ?_
                  refine g_aload_n F 1 rfl rfl dX7_check_77 ?_
                  refine g_get F hV iX7 0 rfl rfl 5 (by decide) (List.mem_of_getElem? (i := 5) rfl) rfl dX7_check_78 ?_
                  refine g_iload_n F 2 rfl rfl dX7_check_81 ?_
                  have r_66 := qpa (c)
                  refine g_iald F hV 5 rfl (c) (by omega) (by omega) (by decide) dX7_check_82 ?_
                  have r_67 := hpl ((m_pa c).toNat)
                  refine g_lald F hV 10 rfl ((m_pa c).toNat) (by omega) (by omega) (by decide) dX7_check_83 ?_
                  refine g_lconst F (z := 0) dX7_check_84 (by decide) ?_
                  refine g_lcmp_eq F (tgt := 93) dX7_check_85 dX7_check_86 (by decide) ⟨by omega, by omega⟩ ⟨by decide, by decide⟩ (fun c_68 => ?_) (fun c_68 => ?_)
                  · skip
                    refine g_iconst F dX7_check_93 ?_
                    refine g_istore_n F ([(3, iv (0)), (2, iv (1)), (0, .ref (m 0)), (1, iv (((c : Nat) : Int)))]) rfl rfl (by decide) dX7_check_94 ?_
                    refine g_aload_n F 2 rfl rfl dX7_check_95 ?_
                    refine g_iload_n F 3 rfl rfl dX7_check_96 ?_
                    refine g_callRV F hV (As := [iv (((c : Nat) : Int))]) (rest := []) (kX7_isWithin l D cA m m_nc m_nr m_ke m_so m_bu m_bc m_pu m_qu m_fs m_cd m_un m_hb m_pf m_ef m_kd m_lo m_hi m_co m_pa m_rk m_nu m_ct m_sa m_pl m_pr c (by omega) (hpl) (hpb) (qlo) (qhi)) (cwV 1 F.2.2.2.2.1 gX7_check_X7_isWithin rfl rfl rfl (by decide +kernel) ⟨Nat.le_of_ble_eq_true rfl, Nat.le_of_ble_eq_true rfl⟩) rfl rfl (q0 := 0) rfl [0, 1, 2, 3, 4, 5, 6, 7, 8, 9, 10, 11] rfl rfl rfl (Nat.le_of_ble_eq_true rfl) ⟨Nat.le_of_ble_eq_true rfl, Nat.le_of_ble_eq_true rfl⟩ dX7_check_97 (fun v hv => ?_)
                    subst hv
                    refine g_eq (st' := [iv (if inBP m_lo m_hi m_pl m_pu c then 1 else 0)]) rfl rfl rfl ?_
                    refine g_ifb_eq F (tgt := 111) dX7_check_100 (by decide) (fun c_69 => ?_) (fun c_69 => ?_)
                    · skip
                      refine g_iconst F dX7_check_111 ?_
                      refine g_iload_n F 3 rfl rfl dX7_check_112 ?_
                      refine g_iadd F dX7_check_113 ?_
                      exact g_zretR F rfl rfl (congrArg (fun z => some (iv z)) (show (1 + (((c : Nat) : Int)) : Int) = fwZ (firstZ (unwB m_kd m_lo m_hi m_pa m_pl m_pu m_nc) m_nc) (firstZ (brkB m_rk m_nu m_ct m_sa m_pl m_pu m_nc) m_nr) by rw [firstZ_at (f := unwB m_kd m_lo m_hi m_pa m_pl m_pu m_nc) (i := c) hj (by unfold unwB; simp only [decide_eq_true_eq]; rintro ⟨w1, w2, w3⟩; first | exact absurd w1 (by assumption) | omega) (by omega)]; unfold fwZ; rw [if_pos (by omega)])) dX7_check_114
                    · skip
                      refine g_iload_n F 1 rfl rfl dX7_check_103 ?_
                      refine g_if_eq F (tgt := 111) dX7_check_104 (by decide) ⟨by decide, by decide⟩ (fun c_70 => ?_) (fun c_70 => ?_)
                      · skip
                        exfalso; omega
                      · skip
                        refine g_iload_n F 0 rfl rfl dX7_check_107 ?_
                        refine g_if_eq F (tgt := 115) dX7_check_108 (by decide) ⟨by decide, by decide⟩ (fun c_71 => ?_) (fun c_71 => ?_)
                        · skip
                          refine g_iinc F 3 rfl ([(1, iv ((((c : Nat) : Int)) + 1)), (3, iv (0)), (2, iv (1)), (0, .ref (m 0))]) rfl (by decide) dX7_check_115 ?_
                          refine g_goto F (tgt := 2) dX7_check_118 (by decide) ?_
                          refine g_lsub ([(0, .ref (m 0)), (1, iv ((((c : Nat) : Int)) + 1))]) [3, 0] rfl ?_
                          exact ih2 (c + 1) (by omega) (fun j w => by rcases (show j < c ∨ j = c by omega) with q | q; exact hj j q; (subst q; unfold unwB; simp only [decide_eq_false_iff_not]; intro q2; apply q2; refine ⟨by assumption, by omega, by omega⟩)) (by omega)
                        · skip
                          exfalso; omega
                  · skip
                    refine g_iconst F dX7_check_89 ?_
                    refine g_goto F (tgt := 94) dX7_check_90 (by decide) ?_
                    refine g_istore_n F ([(3, iv (1)), (2, iv (1)), (0, .ref (m 0)), (1, iv (((c : Nat) : Int)))]) rfl rfl (by decide) dX7_check_94 ?_
                    refine g_aload_n F 2 rfl rfl dX7_check_95 ?_
                    refine g_iload_n F 3 rfl rfl dX7_check_96 ?_
                    refine g_callRV F hV (As := [iv (((c : Nat) : Int))]) (rest := []) (kX7_isWithin l D cA m m_nc m_nr m_ke m_so m_bu m_bc m_pu m_qu m_fs m_cd m_un m_hb m_pf m_ef m_kd m_lo m_hi m_co m_pa m_rk m_nu m_ct m_sa m_pl m_pr c (by omega) (hpl) (hpb) (qlo) (qhi)) (cwV 1 F.2.2.2.2.1 gX7_check_X7_isWithin rfl rfl rfl (by decide +kernel) ⟨Nat.le_of_ble_eq_true rfl, Nat.le_of_ble_eq_true rfl⟩) rfl rfl (q0 := 0) rfl [0, 1, 2, 3, 4, 5, 6, 7, 8, 9, 10, 11] rfl rfl rfl (Nat.le_of_ble_eq_true rfl) ⟨Nat.le_of_ble_eq_true rfl, Nat.le_of_ble_eq_true rfl⟩ dX7_check_97 (fun v hv => ?_)
                    subst hv
                    refine g_eq (st' := [iv (if inBP m_lo m_hi m_pl m_pu c then 1 else 0)]) rfl rfl rfl ?_
                    refine g_ifb_eq F (tgt := 111) dX7_check_100 (by decide) (fun c_72 => ?_) (fun c_72 => ?_)
                    · skip
                      refine g_iconst F dX7_check_111 ?_
                      refine g_iload_n F 3 rfl rfl dX7_check_112 ?_
                      refine g_iadd F dX7_check_113 ?_
                      exact g_zretR F rfl rfl (congrArg (fun z => some (iv z)) (show (1 + (((c : Nat) : Int)) : Int) = fwZ (firstZ (unwB m_kd m_lo m_hi m_pa m_pl m_pu m_nc) m_nc) (firstZ (brkB m_rk m_nu m_ct m_sa m_pl m_pu m_nc) m_nr) by rw [firstZ_at (f := unwB m_kd m_lo m_hi m_pa m_pl m_pu m_nc) (i := c) hj (by unfold unwB; simp only [decide_eq_true_eq]; rintro ⟨w1, w2, w3⟩; first | exact absurd w1 (by assumption) | omega) (by omega)]; unfold fwZ; rw [if_pos (by omega)])) dX7_check_114
                    · skip
                      refine g_iload_n F 1 rfl rfl dX7_check_103 ?_
                      refine g_if_eq F (tgt := 111) dX7_check_104 (by decide) ⟨by decide, by decide⟩ (fun c_73 => ?_) (fun c_73 => ?_)
                      · skip
                        exfalso; omega
                      · skip
                        refine g_iload_n F 0 rfl rfl dX7_check_107 ?_
                        refine g_if_eq F (tgt := 115) dX7_check_108 (by decide) ⟨by decide, by decide⟩ (fun c_74 => ?_) (fun c_74 => ?_)
                        · skip
                          exfalso; omega
                        · skip
                          refine g_iconst F dX7_check_111 ?_
                          refine g_iload_n F 3 rfl rfl dX7_check_112 ?_
                          refine g_iadd F dX7_check_113 ?_
                          exact g_zretR F rfl rfl (congrArg (fun z => some (iv z)) (show (1 + (((c : Nat) : Int)) : Int) = fwZ (firstZ (unwB m_kd m_lo m_hi m_pa m_pl m_pu m_nc) m_nc) (firstZ (brkB m_rk m_nu m_ct m_sa m_pl m_pu m_nc) m_nr) by rw [firstZ_at (f := unwB m_kd m_lo m_hi m_pa m_pl m_pu m_nc) (i := c) hj (by unfold unwB; simp only [decide_eq_true_eq]; rintro ⟨w1, w2, w3⟩; first | exact absurd w1 (by assumption) | omega) (by omega)]; unfold fwZ; rw [if_pos (by omega)])) dX7_check_114
  refine g_lsub ([(0, .ref (m 0)), (1, iv (0))]) [1, 0] rfl ?_
  exact lp2 (_ + 1) 0 (by omega) (fun j w => absurd w (Nat.not_lt_zero j)) (Nat.lt_succ_self _)
