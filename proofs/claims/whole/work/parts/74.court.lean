set_option maxHeartbeats 4000000 in
set_option maxRecDepth 100000 in
theorem kX6_partner (l : Launch) (D : va_G) (cA : Nat → ClassId) (x : Nat → Nat) (x_ba : Nat) (x_sa : Nat) (x_qa : Nat) (x_ha : Nat) (x_so : Int) (a : Nat → Nat) (a_kd : Nat → Int) (a_lo : Nat → Int) (a_hi : Nat → Int) (a_co : Nat → Int) (a_pa : Nat → Int) (a_rk : Nat → Int) (a_nu : Nat → Int) (a_ct : Nat → Int) (a_sa : Nat → Int) (a_nc : Nat) (a_nr : Nat) (c : Int) (v : Int) (hc : -2147483648 ≤ c ∧ c ≤ 2147483647) (hv : -2147483648 ≤ v ∧ v ≤ 2147483647) (qnc : a_nc ≤ 5) (qnr : a_nr ≤ 7) (qkd : ∀ j, 0 ≤ a_kd j ∧ a_kd j ≤ 2) : CT l yX6_partner wsX6_partner ({ frames := 1, cells := 0, slots := 0, locals := 21 }) D cA [.ref (x 0), iv (c), iv (v)] (wC cA x (a 0) (x_ba) (x_sa) (x_qa) (x_ha) (x_so) ++ wP cA a (a_kd) (a_lo) (a_hi) (a_co) (a_pa) (a_rk) (a_nu) (a_ct) (a_sa) (((a_nc : Nat) : Int)) (((a_nr : Nat) : Int))) (fun ov ow => ov = some (iv (if (0 ≤ c ∧ c < (a_nc : Int)) ∧ ¬ v = c ∧ (v = -2000000005 ∨ (0 ≤ v ∧ v < (a_nc : Int))) then (if a_kd c.toNat = 2 then a_pa c.toNat else -2000000002) else -2000000001)) ∧ ow = wC cA x (a 0) x_ba x_sa x_qa x_ha x_so ++ (if ((0 ≤ c ∧ c < (a_nc : Int)) ∧ ¬ v = c ∧ (v = -2000000005 ∨ (0 ≤ v ∧ v < (a_nc : Int)))) ∧ a_kd c.toNat = 2 then wP cA a a_kd a_lo a_hi a_co (va_up a_pa c.toNat v) a_rk a_nu a_ct a_sa (a_nc : Int) (a_nr : Int) else wP cA a a_kd a_lo a_hi a_co a_pa a_rk a_nu a_ct a_sa (a_nc : Int) (a_nr : Int))) 0 0 := by
  refine CT.mk (cc := cX6_partner) (maxL := 4) (ret := (some .int)) (by decide +kernel) rfl (Nat.le_of_ble_eq_true rfl) ?_
  intro p_ e_ s_ m_ b_ me_ c_ A F hnm hA
  have hV := @IM_P D s_ A
  have iX6 : ∀ w ∈ u_ws RX6 TX6 6, w ∈ wsX6_partner := by decide +kernel
  have iX2 : ∀ w ∈ u_ws RX2 TX2 11, w ∈ wsX6_partner := by decide +kernel
  refine g_lsub ([(0, .ref (x 0)), (1, iv (c)), (2, iv (v))]) [0, 1, 2] rfl ?_
  refine g_aload_n F 0 rfl rfl dX6_partner_0 ?_
  refine g_get F hV iX6 0 rfl rfl 0 (by decide) (List.mem_of_getElem? (i := 1) rfl) rfl dX6_partner_1 ?_
  refine g_iload_n F 1 rfl rfl dX6_partner_4 ?_
  refine g_callRV F hV (As := [iv (c)]) (rest := []) (kX2_hasColumn l D cA a a_kd a_lo a_hi a_co a_pa a_rk a_nu a_ct a_sa a_nc a_nr c (by omega) (qnc)) (cwV 1 F.2.2.2.2.1 gX6_partner_X2_hasColumn rfl rfl rfl (by decide +kernel) ⟨Nat.le_of_ble_eq_true rfl, Nat.le_of_ble_eq_true rfl⟩) rfl rfl (q0 := 0) rfl [1, 2, 3, 4, 5, 6, 7, 8, 9, 10] rfl rfl rfl (Nat.le_of_ble_eq_true rfl) ⟨Nat.le_of_ble_eq_true rfl, Nat.le_of_ble_eq_true rfl⟩ dX6_partner_5 (fun v hv => ?_)
  subst hv
  refine g_eq (st' := [iv (if 0 ≤ c ∧ c < a_nc then 1 else 0)]) rfl rfl rfl ?_
  refine g_ifb_eq F (tgt := 16) dX6_partner_8 (by decide) (fun c_1 => ?_) (fun c_1 => ?_)
  · skip
    refine g_ldc F (-2000000001) (by decide) (List.mem_of_getElem? (i := 2) rfl) dX6_partner_16 ?_
    exact g_zret F rfl rfl (by decide) (by decide) ⟨congrArg (fun z => some (iv z)) (show (-2000000001 : Int) = if (0 ≤ c ∧ c < (a_nc : Int)) ∧ ¬ v = c ∧ (v = -2000000005 ∨ (0 ≤ v ∧ v < (a_nc : Int))) then (if a_kd c.toNat = 2 then a_pa c.toNat else -2000000002) else -2000000001 by (try simp only [Int.toNat_natCast]); first | (rw [if_neg (by omega)]; done) | (rw [if_pos (by omega), if_pos (by omega)]; done) | (rw [if_pos (by omega), if_neg (by omega)]; done)), (by (try simp only [Int.toNat_natCast]); first | (rw [if_neg (by omega)]; done) | (rw [if_pos (by omega)]; done))⟩ dX6_partner_18
  · skip
    obtain ⟨cn, hcn⟩ : ∃ y : Nat, c = (y : Int) := ⟨c.toNat, by omega⟩
    subst hcn
    refine g_iload_n F 2 rfl rfl dX6_partner_11 ?_
    refine g_iload_n F 1 rfl rfl dX6_partner_12 ?_
    refine g_icmp_ne F (tgt := 19) dX6_partner_13 (by decide) ⟨by omega, by omega⟩ ⟨by omega, by omega⟩ (fun c_2 => ?_) (fun c_2 => ?_)
    · skip
      refine g_iload_n F 2 rfl rfl dX6_partner_19 ?_
      refine g_ldc F (-2000000005) (by decide) (List.mem_of_getElem? (i := 3) rfl) dX6_partner_20 ?_
      refine g_icmp_eq F (tgt := 39) dX6_partner_22 (by decide) ⟨by omega, by omega⟩ ⟨by decide, by decide⟩ (fun c_3 => ?_) (fun c_3 => ?_)
      · skip
        refine g_aload_n F 0 rfl rfl dX6_partner_39 ?_
        refine g_get F hV iX6 0 rfl rfl 0 (by decide) (List.mem_of_getElem? (i := 1) rfl) rfl dX6_partner_40 ?_
        refine g_iload_n F 1 rfl rfl dX6_partner_43 ?_
        refine g_callRV F hV (As := [iv (((cn : Nat) : Int))]) (rest := []) (kX2_isSwitch l D cA a a_kd a_lo a_hi a_co a_pa a_rk a_nu a_ct a_sa a_nc a_nr cn (by omega) (qkd)) (cwV 1 F.2.2.2.2.1 gX6_partner_X2_isSwitch rfl rfl rfl (by decide +kernel) ⟨Nat.le_of_ble_eq_true rfl, Nat.le_of_ble_eq_true rfl⟩) rfl rfl (q0 := 0) rfl [1, 2, 3, 4, 5, 6, 7, 8, 9, 10] rfl rfl rfl (Nat.le_of_ble_eq_true rfl) ⟨Nat.le_of_ble_eq_true rfl, Nat.le_of_ble_eq_true rfl⟩ dX6_partner_44 (fun v hv => ?_)
        subst hv
        refine g_eq (st' := [iv (if a_kd cn = 2 then 1 else 0)]) rfl rfl rfl ?_
        refine g_ifb_ne F (tgt := 53) dX6_partner_47 (by decide) (fun c_4 => ?_) (fun c_4 => ?_)
        · skip
          refine g_aload_n F 0 rfl rfl dX6_partner_53 ?_
          refine g_get F hV iX6 0 rfl rfl 0 (by decide) (List.mem_of_getElem? (i := 1) rfl) rfl dX6_partner_54 ?_
          refine g_get F hV iX2 1 rfl rfl 4 (by decide) (List.mem_of_getElem? (i := 5) rfl) rfl dX6_partner_57 ?_
          refine g_iload_n F 1 rfl rfl dX6_partner_60 ?_
          refine g_iald F hV 6 rfl (cn) (by omega) (by omega) (by decide) dX6_partner_61 ?_
          refine g_istore_n F ([(3, iv (a_pa cn)), (0, .ref (x 0)), (1, iv (((cn : Nat) : Int))), (2, iv (v))]) rfl rfl (by decide) dX6_partner_62 ?_
          refine g_aload_n F 1 rfl rfl dX6_partner_63 ?_
          refine g_get F hV iX6 0 rfl rfl 0 (by decide) (List.mem_of_getElem? (i := 1) rfl) rfl dX6_partner_64 ?_
          refine g_get F hV iX2 1 rfl rfl 4 (by decide) (List.mem_of_getElem? (i := 5) rfl) rfl dX6_partner_67 ?_
          refine g_iload_n F 2 rfl rfl dX6_partner_70 ?_
          refine g_iload_n F 3 rfl rfl dX6_partner_71 ?_
          refine g_iast F 6 rfl (cn) (by omega) (by omega) (by decide) (wC cA x (a 0) (x_ba) (x_sa) (x_qa) (x_ha) (x_so) ++ wP cA a (a_kd) (a_lo) (a_hi) (a_co) (va_up a_pa cn v) (a_rk) (a_nu) (a_ct) (a_sa) (((a_nc : Nat) : Int)) (((a_nr : Nat) : Int))) rfl dX6_partner_72 ?_
          refine g_iload_n F 0 rfl rfl dX6_partner_73 ?_
          exact g_zret F rfl rfl (by decide) (by decide) ⟨congrArg (fun z => some (iv z)) (show (a_pa cn : Int) = if (0 ≤ ((cn : Nat) : Int) ∧ ((cn : Nat) : Int) < (a_nc : Int)) ∧ ¬ v = ((cn : Nat) : Int) ∧ (v = -2000000005 ∨ (0 ≤ v ∧ v < (a_nc : Int))) then (if a_kd ((cn : Nat) : Int).toNat = 2 then a_pa ((cn : Nat) : Int).toNat else -2000000002) else -2000000001 by (try simp only [Int.toNat_natCast]); first | (rw [if_neg (by omega)]; done) | (rw [if_pos (by omega), if_pos (by omega)]; done) | (rw [if_pos (by omega), if_neg (by omega)]; done)), (by (try simp only [Int.toNat_natCast]); first | (rw [if_neg (by omega)]; done) | (rw [if_pos (by omega)]; done))⟩ dX6_partner_74
        · skip
          refine g_ldc F (-2000000002) (by decide) (List.mem_of_getElem? (i := 4) rfl) dX6_partner_50 ?_
          exact g_zret F rfl rfl (by decide) (by decide) ⟨congrArg (fun z => some (iv z)) (show (-2000000002 : Int) = if (0 ≤ ((cn : Nat) : Int) ∧ ((cn : Nat) : Int) < (a_nc : Int)) ∧ ¬ v = ((cn : Nat) : Int) ∧ (v = -2000000005 ∨ (0 ≤ v ∧ v < (a_nc : Int))) then (if a_kd ((cn : Nat) : Int).toNat = 2 then a_pa ((cn : Nat) : Int).toNat else -2000000002) else -2000000001 by (try simp only [Int.toNat_natCast]); first | (rw [if_neg (by omega)]; done) | (rw [if_pos (by omega), if_pos (by omega)]; done) | (rw [if_pos (by omega), if_neg (by omega)]; done)), (by (try simp only [Int.toNat_natCast]); first | (rw [if_neg (by omega)]; done) | (rw [if_pos (by omega)]; done))⟩ dX6_partner_52
      · skip
        refine g_aload_n F 0 rfl rfl dX6_partner_25 ?_
        refine g_get F hV iX6 0 rfl rfl 0 (by decide) (List.mem_of_getElem? (i := 1) rfl) rfl dX6_partner_26 ?_
        refine g_iload_n F 2 rfl rfl dX6_partner_29 ?_
        refine g_callRV F hV (As := [iv (v)]) (rest := []) (kX2_hasColumn l D cA a a_kd a_lo a_hi a_co a_pa a_rk a_nu a_ct a_sa a_nc a_nr v (by omega) (qnc)) (cwV 1 F.2.2.2.2.1 gX6_partner_X2_hasColumn rfl rfl rfl (by decide +kernel) ⟨Nat.le_of_ble_eq_true rfl, Nat.le_of_ble_eq_true rfl⟩) rfl rfl (q0 := 0) rfl [1, 2, 3, 4, 5, 6, 7, 8, 9, 10] rfl rfl rfl (Nat.le_of_ble_eq_true rfl) ⟨Nat.le_of_ble_eq_true rfl, Nat.le_of_ble_eq_true rfl⟩ dX6_partner_30 (fun v hv => ?_)
        subst hv
        refine g_eq (st' := [iv (if 0 ≤ v ∧ v < a_nc then 1 else 0)]) rfl rfl rfl ?_
        refine g_ifb_ne F (tgt := 39) dX6_partner_33 (by decide) (fun c_5 => ?_) (fun c_5 => ?_)
        · skip
          refine g_aload_n F 0 rfl rfl dX6_partner_39 ?_
          refine g_get F hV iX6 0 rfl rfl 0 (by decide) (List.mem_of_getElem? (i := 1) rfl) rfl dX6_partner_40 ?_
          refine g_iload_n F 1 rfl rfl dX6_partner_43 ?_
          refine g_callRV F hV (As := [iv (((cn : Nat) : Int))]) (rest := []) (kX2_isSwitch l D cA a a_kd a_lo a_hi a_co a_pa a_rk a_nu a_ct a_sa a_nc a_nr cn (by omega) (qkd)) (cwV 1 F.2.2.2.2.1 gX6_partner_X2_isSwitch rfl rfl rfl (by decide +kernel) ⟨Nat.le_of_ble_eq_true rfl, Nat.le_of_ble_eq_true rfl⟩) rfl rfl (q0 := 0) rfl [1, 2, 3, 4, 5, 6, 7, 8, 9, 10] rfl rfl rfl (Nat.le_of_ble_eq_true rfl) ⟨Nat.le_of_ble_eq_true rfl, Nat.le_of_ble_eq_true rfl⟩ dX6_partner_44 (fun v hv => ?_)
          subst hv
          refine g_eq (st' := [iv (if a_kd cn = 2 then 1 else 0)]) rfl rfl rfl ?_
          refine g_ifb_ne F (tgt := 53) dX6_partner_47 (by decide) (fun c_6 => ?_) (fun c_6 => ?_)
          · skip
            refine g_aload_n F 0 rfl rfl dX6_partner_53 ?_
            refine g_get F hV iX6 0 rfl rfl 0 (by decide) (List.mem_of_getElem? (i := 1) rfl) rfl dX6_partner_54 ?_
            refine g_get F hV iX2 1 rfl rfl 4 (by decide) (List.mem_of_getElem? (i := 5) rfl) rfl dX6_partner_57 ?_
            refine g_iload_n F 1 rfl rfl dX6_partner_60 ?_
            refine g_iald F hV 6 rfl (cn) (by omega) (by omega) (by decide) dX6_partner_61 ?_
            refine g_istore_n F ([(3, iv (a_pa cn)), (0, .ref (x 0)), (1, iv (((cn : Nat) : Int))), (2, iv (v))]) rfl rfl (by decide) dX6_partner_62 ?_
            refine g_aload_n F 1 rfl rfl dX6_partner_63 ?_
            refine g_get F hV iX6 0 rfl rfl 0 (by decide) (List.mem_of_getElem? (i := 1) rfl) rfl dX6_partner_64 ?_
            refine g_get F hV iX2 1 rfl rfl 4 (by decide) (List.mem_of_getElem? (i := 5) rfl) rfl dX6_partner_67 ?_
            refine g_iload_n F 2 rfl rfl dX6_partner_70 ?_
            refine g_iload_n F 3 rfl rfl dX6_partner_71 ?_
            refine g_iast F 6 rfl (cn) (by omega) (by omega) (by decide) (wC cA x (a 0) (x_ba) (x_sa) (x_qa) (x_ha) (x_so) ++ wP cA a (a_kd) (a_lo) (a_hi) (a_co) (va_up a_pa cn v) (a_rk) (a_nu) (a_ct) (a_sa) (((a_nc : Nat) : Int)) (((a_nr : Nat) : Int))) rfl dX6_partner_72 ?_
            refine g_iload_n F 0 rfl rfl dX6_partner_73 ?_
            exact g_zret F rfl rfl (by decide) (by decide) ⟨congrArg (fun z => some (iv z)) (show (a_pa cn : Int) = if (0 ≤ ((cn : Nat) : Int) ∧ ((cn : Nat) : Int) < (a_nc : Int)) ∧ ¬ v = ((cn : Nat) : Int) ∧ (v = -2000000005 ∨ (0 ≤ v ∧ v < (a_nc : Int))) then (if a_kd ((cn : Nat) : Int).toNat = 2 then a_pa ((cn : Nat) : Int).toNat else -2000000002) else -2000000001 by (try simp only [Int.toNat_natCast]); first | (rw [if_neg (by omega)]; done) | (rw [if_pos (by omega), if_pos (by omega)]; done) | (rw [if_pos (by omega), if_neg (by omega)]; done)), (by (try simp only [Int.toNat_natCast]); first | (rw [if_neg (by omega)]; done) | (rw [if_pos (by omega)]; done))⟩ dX6_partner_74
          · skip
            refine g_ldc F (-2000000002) (by decide) (List.mem_of_getElem? (i := 4) rfl) dX6_partner_50 ?_
            exact g_zret F rfl rfl (by decide) (by decide) ⟨congrArg (fun z => some (iv z)) (show (-2000000002 : Int) = if (0 ≤ ((cn : Nat) : Int) ∧ ((cn : Nat) : Int) < (a_nc : Int)) ∧ ¬ v = ((cn : Nat) : Int) ∧ (v = -2000000005 ∨ (0 ≤ v ∧ v < (a_nc : Int))) then (if a_kd ((cn : Nat) : Int).toNat = 2 then a_pa ((cn : Nat) : Int).toNat else -2000000002) else -2000000001 by (try simp only [Int.toNat_natCast]); first | (rw [if_neg (by omega)]; done) | (rw [if_pos (by omega), if_pos (by omega)]; done) | (rw [if_pos (by omega), if_neg (by omega)]; done)), (by (try simp only [Int.toNat_natCast]); first | (rw [if_neg (by omega)]; done) | (rw [if_pos (by omega)]; done))⟩ dX6_partner_52
        · skip
          refine g_ldc F (-2000000001) (by decide) (List.mem_of_getElem? (i := 2) rfl) dX6_partner_36 ?_
          exact g_zret F rfl rfl (by decide) (by decide) ⟨congrArg (fun z => some (iv z)) (show (-2000000001 : Int) = if (0 ≤ ((cn : Nat) : Int) ∧ ((cn : Nat) : Int) < (a_nc : Int)) ∧ ¬ v = ((cn : Nat) : Int) ∧ (v = -2000000005 ∨ (0 ≤ v ∧ v < (a_nc : Int))) then (if a_kd ((cn : Nat) : Int).toNat = 2 then a_pa ((cn : Nat) : Int).toNat else -2000000002) else -2000000001 by (try simp only [Int.toNat_natCast]); first | (rw [if_neg (by omega)]; done) | (rw [if_pos (by omega), if_pos (by omega)]; done) | (rw [if_pos (by omega), if_neg (by omega)]; done)), (by (try simp only [Int.toNat_natCast]); first | (rw [if_neg (by omega)]; done) | (rw [if_pos (by omega)]; done))⟩ dX6_partner_38
    · skip
      refine g_ldc F (-2000000001) (by decide) (List.mem_of_getElem? (i := 2) rfl) dX6_partner_16 ?_
      exact g_zret F rfl rfl (by decide) (by decide) ⟨congrArg (fun z => some (iv z)) (show (-2000000001 : Int) = if (0 ≤ ((cn : Nat) : Int) ∧ ((cn : Nat) : Int) < (a_nc : Int)) ∧ ¬ v = ((cn : Nat) : Int) ∧ (v = -2000000005 ∨ (0 ≤ v ∧ v < (a_nc : Int))) then (if a_kd ((cn : Nat) : Int).toNat = 2 then a_pa ((cn : Nat) : Int).toNat else -2000000002) else -2000000001 by (try simp only [Int.toNat_natCast]); first | (rw [if_neg (by omega)]; done) | (rw [if_pos (by omega), if_pos (by omega)]; done) | (rw [if_pos (by omega), if_neg (by omega)]; done)), (by (try simp only [Int.toNat_natCast]); first | (rw [if_neg (by omega)]; done) | (rw [if_pos (by omega)]; done))⟩ dX6_partner_18

set_option maxHeartbeats 4000000 in
set_option maxRecDepth 100000 in
theorem kX6_bound (l : Launch) (D : va_G) (cA : Nat → ClassId) (x : Nat → Nat) (x_ba : Nat) (x_sa : Nat) (x_qa : Nat) (x_ha : Nat) (x_so : Int) (a : Nat → Nat) (a_kd : Nat → Int) (a_lo : Nat → Int) (a_hi : Nat → Int) (a_co : Nat → Int) (a_pa : Nat → Int) (a_rk : Nat → Int) (a_nu : Nat → Int) (a_ct : Nat → Int) (a_sa : Nat → Int) (a_nc : Nat) (a_nr : Nat) (c : Int) (v : Int) (w : Int) (hc : -2147483648 ≤ c ∧ c ≤ 2147483647) (hv : -2147483648 ≤ v ∧ v ≤ 2147483647) (hw : -2147483648 ≤ w ∧ w ≤ 2147483647) (qnc : a_nc ≤ 5) (qnr : a_nr ≤ 7) (qkd : ∀ j, 0 ≤ a_kd j ∧ a_kd j ≤ 2) : CT l yX6_bound wsX6_bound ({ frames := 2, cells := 0, slots := 0, locals := 43 }) D cA [.ref (x 0), iv (c), iv (v), iv (w)] (wC cA x (a 0) (x_ba) (x_sa) (x_qa) (x_ha) (x_so) ++ wP cA a (a_kd) (a_lo) (a_hi) (a_co) (a_pa) (a_rk) (a_nu) (a_ct) (a_sa) (((a_nc : Nat) : Int)) (((a_nr : Nat) : Int))) (fun ov ow => ov = some (iv (if 0 ≤ c ∧ c < (a_nc : Int) then (if a_kd c.toNat = 2 then -2000000002 else if fitsP (a_kd c.toNat) v w then 0 else -2000000001) else -2000000001)) ∧ ow = wC cA x (a 0) x_ba x_sa x_qa x_ha x_so ++ (if (0 ≤ c ∧ c < (a_nc : Int)) ∧ ¬ a_kd c.toNat = 2 ∧ fitsP (a_kd c.toNat) v w then wP cA a a_kd (va_up a_lo c.toNat v) (va_up a_hi c.toNat w) a_co a_pa a_rk a_nu a_ct a_sa (a_nc : Int) (a_nr : Int) else wP cA a a_kd a_lo a_hi a_co a_pa a_rk a_nu a_ct a_sa (a_nc : Int) (a_nr : Int))) 0 0 := by
  refine CT.mk (cc := cX6_bound) (maxL := 4) (ret := (some .int)) (by decide +kernel) rfl (Nat.le_of_ble_eq_true rfl) ?_
  intro p_ e_ s_ m_ b_ me_ c_ A F hnm hA
  have hV := @IM_P D s_ A
  have iX6 : ∀ w ∈ u_ws RX6 TX6 6, w ∈ wsX6_bound := by decide +kernel
  have iX2 : ∀ w ∈ u_ws RX2 TX2 11, w ∈ wsX6_bound := by decide +kernel
  refine g_lsub ([(0, .ref (x 0)), (1, iv (c)), (2, iv (v)), (3, iv (w))]) [0, 1, 2, 3] rfl ?_
  refine g_aload_n F 0 rfl rfl dX6_bound_0 ?_
  refine g_get F hV iX6 0 rfl rfl 0 (by decide) (List.mem_of_getElem? (i := 1) rfl) rfl dX6_bound_1 ?_
  refine g_iload_n F 1 rfl rfl dX6_bound_4 ?_
  refine g_callRV F hV (As := [iv (c)]) (rest := []) (kX2_hasColumn l D cA a a_kd a_lo a_hi a_co a_pa a_rk a_nu a_ct a_sa a_nc a_nr c (by omega) (qnc)) (cwV 1 F.2.2.2.2.1 gX6_bound_X2_hasColumn rfl rfl rfl (by decide +kernel) ⟨Nat.le_of_ble_eq_true rfl, Nat.le_of_ble_eq_true rfl⟩) rfl rfl (q0 := 0) rfl [1, 2, 3, 4, 5, 6, 7, 8, 9, 10] rfl rfl rfl (Nat.le_of_ble_eq_true rfl) ⟨Nat.le_of_ble_eq_true rfl, Nat.le_of_ble_eq_true rfl⟩ dX6_bound_5 (fun v hv => ?_)
  subst hv
  refine g_eq (st' := [iv (if 0 ≤ c ∧ c < a_nc then 1 else 0)]) rfl rfl rfl ?_
  refine g_ifb_ne F (tgt := 14) dX6_bound_8 (by decide) (fun c_1 => ?_) (fun c_1 => ?_)
  · skip
    obtain ⟨cn, hcn⟩ : ∃ y : Nat, c = (y : Int) := ⟨c.toNat, by omega⟩
    subst hcn
    refine g_aload_n F 0 rfl rfl dX6_bound_14 ?_
    refine g_get F hV iX6 0 rfl rfl 0 (by decide) (List.mem_of_getElem? (i := 1) rfl) rfl dX6_bound_15 ?_
    refine g_iload_n F 1 rfl rfl dX6_bound_18 ?_
    refine g_callRV F hV (As := [iv (((cn : Nat) : Int))]) (rest := []) (kX2_isSwitch l D cA a a_kd a_lo a_hi a_co a_pa a_rk a_nu a_ct a_sa a_nc a_nr cn (by omega) (qkd)) (cwV 1 F.2.2.2.2.1 gX6_bound_X2_isSwitch rfl rfl rfl (by decide +kernel) ⟨Nat.le_of_ble_eq_true rfl, Nat.le_of_ble_eq_true rfl⟩) rfl rfl (q0 := 0) rfl [1, 2, 3, 4, 5, 6, 7, 8, 9, 10] rfl rfl rfl (Nat.le_of_ble_eq_true rfl) ⟨Nat.le_of_ble_eq_true rfl, Nat.le_of_ble_eq_true rfl⟩ dX6_bound_19 (fun v hv => ?_)
    subst hv
    refine g_eq (st' := [iv (if a_kd cn = 2 then 1 else 0)]) rfl rfl rfl ?_
    refine g_ifb_eq F (tgt := 28) dX6_bound_22 (by decide) (fun c_2 => ?_) (fun c_2 => ?_)
    · skip
      refine g_aload_n F 0 rfl rfl dX6_bound_28 ?_
      refine g_get F hV iX6 0 rfl rfl 0 (by decide) (List.mem_of_getElem? (i := 1) rfl) rfl dX6_bound_29 ?_
      refine g_get F hV iX2 1 rfl rfl 0 (by decide) (List.mem_of_getElem? (i := 4) rfl) rfl dX6_bound_32 ?_
      refine g_iload_n F 1 rfl rfl dX6_bound_35 ?_
      have r_3 := qkd (cn)
      refine g_iald F hV 2 rfl (cn) (by omega) (by omega) (by decide) dX6_bound_36 ?_
      refine g_iload_n F 2 rfl rfl dX6_bound_37 ?_
      refine g_iload_n F 3 rfl rfl dX6_bound_38 ?_
      refine g_callRS F hV (As := [iv (a_kd cn), iv (v), iv (w)]) (rest := []) (kX2_fits l D cA (a_kd cn) v w (qkd _) (by omega) (by omega)) (va_cwS 3 F.2.2.2.2.1 gX6_bound_X2_fits rfl rfl rfl (by decide +kernel) ⟨Nat.le_of_ble_eq_true rfl, Nat.le_of_ble_eq_true rfl⟩) [] rfl rfl rfl (Nat.le_of_ble_eq_true rfl) ⟨Nat.le_of_ble_eq_true rfl, Nat.le_of_ble_eq_true rfl⟩ dX6_bound_39 (fun v hv => ?_)
      subst hv
      refine g_eq (st' := [iv (if fitsP (a_kd cn) v w then 1 else 0)]) rfl rfl rfl ?_
      refine g_ifb_ne F (tgt := 48) dX6_bound_42 (by decide) (fun c_4 => ?_) (fun c_4 => ?_)
      · skip
        refine g_aload_n F 0 rfl rfl dX6_bound_48 ?_
        refine g_get F hV iX6 0 rfl rfl 0 (by decide) (List.mem_of_getElem? (i := 1) rfl) rfl dX6_bound_49 ?_
        refine g_get F hV iX2 1 rfl rfl 1 (by decide) (List.mem_of_getElem? (i := 5) rfl) rfl dX6_bound_52 ?_
        refine g_iload_n F 1 rfl rfl dX6_bound_55 ?_
        refine g_iload_n F 2 rfl rfl dX6_bound_56 ?_
        refine g_iast F 3 rfl (cn) (by omega) (by omega) (by decide) (wC cA x (a 0) (x_ba) (x_sa) (x_qa) (x_ha) (x_so) ++ wP cA a (a_kd) (va_up a_lo cn v) (a_hi) (a_co) (a_pa) (a_rk) (a_nu) (a_ct) (a_sa) (((a_nc : Nat) : Int)) (((a_nr : Nat) : Int))) rfl dX6_bound_57 ?_
        refine g_aload_n F 0 rfl rfl dX6_bound_58 ?_
        refine g_get F hV iX6 0 rfl rfl 0 (by decide) (List.mem_of_getElem? (i := 1) rfl) rfl dX6_bound_59 ?_
        refine g_get F hV iX2 1 rfl rfl 2 (by decide) (List.mem_of_getElem? (i := 6) rfl) rfl dX6_bound_62 ?_
        refine g_iload_n F 1 rfl rfl dX6_bound_65 ?_
        refine g_iload_n F 3 rfl rfl dX6_bound_66 ?_
        refine g_iast F 4 rfl (cn) (by omega) (by omega) (by decide) (wC cA x (a 0) (x_ba) (x_sa) (x_qa) (x_ha) (x_so) ++ wP cA a (a_kd) (va_up a_lo cn v) (va_up a_hi cn w) (a_co) (a_pa) (a_rk) (a_nu) (a_ct) (a_sa) (((a_nc : Nat) : Int)) (((a_nr : Nat) : Int))) rfl dX6_bound_67 ?_
        refine g_iconst F dX6_bound_68 ?_
        exact g_zret F rfl rfl (by decide) (by decide) ⟨congrArg (fun z => some (iv z)) (show (0 : Int) = if 0 ≤ ((cn : Nat) : Int) ∧ ((cn : Nat) : Int) < (a_nc : Int) then (if a_kd ((cn : Nat) : Int).toNat = 2 then -2000000002 else if fitsP (a_kd ((cn : Nat) : Int).toNat) v w then 0 else -2000000001) else -2000000001 by (try simp only [Int.toNat_natCast]); first | (rw [if_neg (by omega)]; done) | (rw [if_pos (by omega), if_pos (by omega)]; done) | (rw [if_pos (by omega), if_neg (by omega), if_pos (by assumption)]; done) | (rw [if_pos (by omega), if_neg (by omega), if_neg (by assumption)]; done)), (by (try simp only [Int.toNat_natCast]); first | (rw [if_neg (fun z => absurd z.1 (by omega))]; done) | (rw [if_neg (fun z => absurd z.2.1 (by omega))]; done) | (rw [if_neg (fun z => absurd z.2.2 (by assumption))]; done) | (rw [if_pos ⟨by omega, by omega, by assumption⟩]; done))⟩ dX6_bound_69
      · skip
        refine g_ldc F (-2000000001) (by decide) (List.mem_of_getElem? (i := 2) rfl) dX6_bound_45 ?_
        exact g_zret F rfl rfl (by decide) (by decide) ⟨congrArg (fun z => some (iv z)) (show (-2000000001 : Int) = if 0 ≤ ((cn : Nat) : Int) ∧ ((cn : Nat) : Int) < (a_nc : Int) then (if a_kd ((cn : Nat) : Int).toNat = 2 then -2000000002 else if fitsP (a_kd ((cn : Nat) : Int).toNat) v w then 0 else -2000000001) else -2000000001 by (try simp only [Int.toNat_natCast]); first | (rw [if_neg (by omega)]; done) | (rw [if_pos (by omega), if_pos (by omega)]; done) | (rw [if_pos (by omega), if_neg (by omega), if_pos (by assumption)]; done) | (rw [if_pos (by omega), if_neg (by omega), if_neg (by assumption)]; done)), (by (try simp only [Int.toNat_natCast]); first | (rw [if_neg (fun z => absurd z.1 (by omega))]; done) | (rw [if_neg (fun z => absurd z.2.1 (by omega))]; done) | (rw [if_neg (fun z => absurd z.2.2 (by assumption))]; done) | (rw [if_pos ⟨by omega, by omega, by assumption⟩]; done))⟩ dX6_bound_47
    · skip
      refine g_ldc F (-2000000002) (by decide) (List.mem_of_getElem? (i := 3) rfl) dX6_bound_25 ?_
      exact g_zret F rfl rfl (by decide) (by decide) ⟨congrArg (fun z => some (iv z)) (show (-2000000002 : Int) = if 0 ≤ ((cn : Nat) : Int) ∧ ((cn : Nat) : Int) < (a_nc : Int) then (if a_kd ((cn : Nat) : Int).toNat = 2 then -2000000002 else if fitsP (a_kd ((cn : Nat) : Int).toNat) v w then 0 else -2000000001) else -2000000001 by (try simp only [Int.toNat_natCast]); first | (rw [if_neg (by omega)]; done) | (rw [if_pos (by omega), if_pos (by omega)]; done) | (rw [if_pos (by omega), if_neg (by omega), if_pos (by assumption)]; done) | (rw [if_pos (by omega), if_neg (by omega), if_neg (by assumption)]; done)), (by (try simp only [Int.toNat_natCast]); first | (rw [if_neg (fun z => absurd z.1 (by omega))]; done) | (rw [if_neg (fun z => absurd z.2.1 (by omega))]; done) | (rw [if_neg (fun z => absurd z.2.2 (by assumption))]; done) | (rw [if_pos ⟨by omega, by omega, by assumption⟩]; done))⟩ dX6_bound_27
  · skip
    refine g_ldc F (-2000000001) (by decide) (List.mem_of_getElem? (i := 2) rfl) dX6_bound_11 ?_
    exact g_zret F rfl rfl (by decide) (by decide) ⟨congrArg (fun z => some (iv z)) (show (-2000000001 : Int) = if 0 ≤ c ∧ c < (a_nc : Int) then (if a_kd c.toNat = 2 then -2000000002 else if fitsP (a_kd c.toNat) v w then 0 else -2000000001) else -2000000001 by (try simp only [Int.toNat_natCast]); first | (rw [if_neg (by omega)]; done) | (rw [if_pos (by omega), if_pos (by omega)]; done) | (rw [if_pos (by omega), if_neg (by omega), if_pos (by assumption)]; done) | (rw [if_pos (by omega), if_neg (by omega), if_neg (by assumption)]; done)), (by (try simp only [Int.toNat_natCast]); first | (rw [if_neg (fun z => absurd z.1 (by omega))]; done) | (rw [if_neg (fun z => absurd z.2.1 (by omega))]; done) | (rw [if_neg (fun z => absurd z.2.2 (by assumption))]; done) | (rw [if_pos ⟨by omega, by omega, by assumption⟩]; done))⟩ dX6_bound_13
