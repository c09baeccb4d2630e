set_option maxHeartbeats 4000000 in
set_option maxRecDepth 100000 in
theorem kX6_share (l : Launch) (D : va_G) (cA : Nat → ClassId) (x : Nat → Nat) (x_ba : Nat) (x_sa : Nat) (x_qa : Nat) (x_ha : Nat) (x_so : Int) (a : Nat → Nat) (a_kd : Nat → Int) (a_lo : Nat → Int) (a_hi : Nat → Int) (a_co : Nat → Int) (a_pa : Nat → Int) (a_rk : Nat → Int) (a_nu : Nat → Int) (a_ct : Nat → Int) (a_sa : Nat → Int) (a_nc : Nat) (a_nr : Nat) (c : Int) (v : Int) (w : Int) (hc : -2147483648 ≤ c ∧ c ≤ 2147483647) (hv : -2147483648 ≤ v ∧ v ≤ 2147483647) (hw : -2147483648 ≤ w ∧ w ≤ 2147483647) (qnc : a_nc ≤ 5) (qnr : a_nr ≤ 7) (qkd : ∀ j, 0 ≤ a_kd j ∧ a_kd j ≤ 2) : CT l yX6_share wsX6_share ({ frames := 1, cells := 0, slots := 0, locals := 22 }) D cA [.ref (x 0), iv (c), iv (v), iv (w)] (wC cA x (a 0) (x_ba) (x_sa) (x_qa) (x_ha) (x_so) ++ wP cA a (a_kd) (a_lo) (a_hi) (a_co) (a_pa) (a_rk) (a_nu) (a_ct) (a_sa) (((a_nc : Nat) : Int)) (((a_nr : Nat) : Int))) (fun ov ow => ov = some (iv (if (0 ≤ c ∧ c < (a_nr : Int)) ∧ (0 ≤ v ∧ v < (a_nc : Int)) ∧ -9 ≤ w ∧ w ≤ 9 then a_sa (c.toNat * 5 + v.toNat) else -2000000001)) ∧ ow = wC cA x (a 0) x_ba x_sa x_qa x_ha x_so ++ (if (0 ≤ c ∧ c < (a_nr : Int)) ∧ (0 ≤ v ∧ v < (a_nc : Int)) ∧ -9 ≤ w ∧ w ≤ 9 then wP cA a a_kd a_lo a_hi a_co a_pa a_rk a_nu a_ct (va_up a_sa (c.toNat * 5 + v.toNat) w) (a_nc : Int) (a_nr : Int) else wP cA a a_kd a_lo a_hi a_co a_pa a_rk a_nu a_ct a_sa (a_nc : Int) (a_nr : Int))) 0 0 := by
  refine CT.mk (cc := cX6_share) (maxL := 5) (ret := (some .int)) (by decide +kernel) rfl (Nat.le_of_ble_eq_true rfl) ?_
  intro p_ e_ s_ m_ b_ me_ c_ A F hnm hA
  have hV := @IM_P D s_ A
  have iX6 : ∀ w ∈ u_ws RX6 TX6 6, w ∈ wsX6_share := by decide +kernel
  have iX2 : ∀ w ∈ u_ws RX2 TX2 11, w ∈ wsX6_share := by decide +kernel
  refine g_lsub ([(0, .ref (x 0)), (1, iv (c)), (2, iv (v)), (3, iv (w))]) [0, 1, 2, 3] rfl ?_
  refine g_aload_n F 0 rfl rfl dX6_share_0 ?_
  refine g_get F hV iX6 0 rfl rfl 0 (by decide) (List.mem_of_getElem? (i := 1) rfl) rfl dX6_share_1 ?_
  refine g_iload_n F 1 rfl rfl dX6_share_4 ?_
  refine g_callRV F hV (As := [iv (c)]) (rest := []) (kX2_hasRow l D cA a a_kd a_lo a_hi a_co a_pa a_rk a_nu a_ct a_sa a_nc a_nr c (by omega) (qnr)) (cwV 1 F.2.2.2.2.1 gX6_share_X2_hasRow rfl rfl rfl (by decide +kernel) ⟨Nat.le_of_ble_eq_true rfl, Nat.le_of_ble_eq_true rfl⟩) rfl rfl (q0 := 0) rfl [1, 2, 3, 4, 5, 6, 7, 8, 9, 10] rfl rfl rfl (Nat.le_of_ble_eq_true rfl) ⟨Nat.le_of_ble_eq_true rfl, Nat.le_of_ble_eq_true rfl⟩ dX6_share_5 (fun v hv => ?_)
  subst hv
  refine g_eq (st' := [iv (if 0 ≤ c ∧ c < a_nr then 1 else 0)]) rfl rfl rfl ?_
  refine g_ifb_eq F (tgt := 31) dX6_share_8 (by decide) (fun c_1 => ?_) (fun c_1 => ?_)
  · skip
    refine g_ldc F (-2000000001) (by decide) (List.mem_of_getElem? (i := 2) rfl) dX6_share_31 ?_
    exact g_zret F rfl rfl (by decide) (by decide) ⟨congrArg (fun z => some (iv z)) (show (-2000000001 : Int) = if (0 ≤ c ∧ c < (a_nr : Int)) ∧ (0 ≤ v ∧ v < (a_nc : Int)) ∧ -9 ≤ w ∧ w ≤ 9 then a_sa (c.toNat * 5 + v.toNat) else -2000000001 by (try simp only [Int.toNat_natCast]); first | (rw [if_neg (by omega)]; done) | (rw [if_pos (by omega)]; done)), (by (try simp only [Int.toNat_natCast]); first | (rw [if_neg (by omega)]; done) | (rw [if_pos (by omega)]; done))⟩ dX6_share_33
  · skip
    obtain ⟨cn, hcn⟩ : ∃ y : Nat, c = (y : Int) := ⟨c.toNat, by omega⟩
    subst hcn
    refine g_aload_n F 0 rfl rfl dX6_share_11 ?_
    refine g_get F hV iX6 0 rfl rfl 0 (by decide) (List.mem_of_getElem? (i := 1) rfl) rfl dX6_share_12 ?_
    refine g_iload_n F 2 rfl rfl dX6_share_15 ?_
    refine g_callRV F hV (As := [iv (v)]) (rest := []) (kX2_hasColumn l D cA a a_kd a_lo a_hi a_co a_pa a_rk a_nu a_ct a_sa a_nc a_nr v (by omega) (qnc)) (cwV 1 F.2.2.2.2.1 gX6_share_X2_hasColumn rfl rfl rfl (by decide +kernel) ⟨Nat.le_of_ble_eq_true rfl, Nat.le_of_ble_eq_true rfl⟩) rfl rfl (q0 := 0) rfl [1, 2, 3, 4, 5, 6, 7, 8, 9, 10] rfl rfl rfl (Nat.le_of_ble_eq_true rfl) ⟨Nat.le_of_ble_eq_true rfl, Nat.le_of_ble_eq_true rfl⟩ dX6_share_16 (fun v hv => ?_)
    subst hv
    refine g_eq (st' := [iv (if 0 ≤ v ∧ v < a_nc then 1 else 0)]) rfl rfl rfl ?_
    refine g_ifb_eq F (tgt := 31) dX6_share_19 (by decide) (fun c_2 => ?_) (fun c_2 => ?_)
    · skip
      refine g_ldc F (-2000000001) (by decide) (List.mem_of_getElem? (i := 2) rfl) dX6_share_31 ?_
      exact g_zret F rfl rfl (by decide) (by decide) ⟨congrArg (fun z => some (iv z)) (show (-2000000001 : Int) = if (0 ≤ ((cn : Nat) : Int) ∧ ((cn : Nat) : Int) < (a_nr : Int)) ∧ (0 ≤ v ∧ v < (a_nc : Int)) ∧ -9 ≤ w ∧ w ≤ 9 then a_sa (((cn : Nat) : Int).toNat * 5 + v.toNat) else -2000000001 by (try simp only [Int.toNat_natCast]); first | (rw [if_neg (by omega)]; done) | (rw [if_pos (by omega)]; done)), (by (try simp only [Int.toNat_natCast]); first | (rw [if_neg (by omega)]; done) | (rw [if_pos (by omega)]; done))⟩ dX6_share_33
    · skip
      obtain ⟨vn, hvn⟩ : ∃ y : Nat, v = (y : Int) := ⟨v.toNat, by omega⟩
      subst hvn
      refine g_iload_n F 3 rfl rfl dX6_share_22 ?_
      refine g_bipush F dX6_share_23 (by decide) ?_
      refine g_callRS F hV (As := [iv (w), iv (9)]) (rest := []) (kX6_isWithin l D cA w 9 (by omega) (by omega)) (va_cwS 2 F.2.2.2.2.1 gX6_share_X6_isWithin rfl rfl rfl (by decide +kernel) ⟨Nat.le_of_ble_eq_true rfl, Nat.le_of_ble_eq_true rfl⟩) [] rfl rfl rfl (Nat.le_of_ble_eq_true rfl) ⟨Nat.le_of_ble_eq_true rfl, Nat.le_of_ble_eq_true rfl⟩ dX6_share_25 (fun v hv => ?_)
      subst hv
      refine g_eq (st' := [iv (if -9 ≤ w ∧ w ≤ 9 then 1 else 0)]) rfl rfl rfl ?_
      refine g_ifb_ne F (tgt := 34) dX6_share_28 (by decide) (fun c_3 => ?_) (fun c_3 => ?_)
      · skip
        refine g_aload_n F 0 rfl rfl dX6_share_34 ?_
        refine g_get F hV iX6 0 rfl rfl 0 (by decide) (List.mem_of_getElem? (i := 1) rfl) rfl dX6_share_35 ?_
        refine g_iload_n F 1 rfl rfl dX6_share_38 ?_
        refine g_iload_n F 2 rfl rfl dX6_share_39 ?_
        refine g_callRV F hV (As := [iv (((cn : Nat) : Int)), iv (((vn : Nat) : Int))]) (rest := []) (kX2_shareOf l D cA a a_kd a_lo a_hi a_co a_pa a_rk a_nu a_ct a_sa a_nc a_nr cn vn (by omega) (by omega)) (cwV 2 F.2.2.2.2.1 gX6_share_X2_shareOf rfl rfl rfl (by decide +kernel) ⟨Nat.le_of_ble_eq_true rfl, Nat.le_of_ble_eq_true rfl⟩) rfl rfl (q0 := 0) rfl [1, 2, 3, 4, 5, 6, 7, 8, 9, 10] rfl rfl rfl (Nat.le_of_ble_eq_true rfl) ⟨Nat.le_of_ble_eq_true rfl, Nat.le_of_ble_eq_true rfl⟩ dX6_share_40 (fun v hv => ?_)
        subst hv
        refine g_eq (st' := [iv (a_sa (cn * 5 + vn))]) rfl rfl rfl ?_
        refine g_istore F ([(4, iv (a_sa (cn * 5 + vn))), (0, .ref (x 0)), (1, iv (((cn : Nat) : Int))), (2, iv (((vn : Nat) : Int))), (3, iv (w))]) rfl (by decide) dX6_share_43 ?_
        refine g_aload_n F 1 rfl rfl dX6_share_45 ?_
        refine g_get F hV iX6 0 rfl rfl 0 (by decide) (List.mem_of_getElem? (i := 1) rfl) rfl dX6_share_46 ?_
        refine g_get F hV iX2 1 rfl rfl 8 (by decide) (List.mem_of_getElem? (i := 3) rfl) rfl dX6_share_49 ?_
        refine g_iload_n F 2 rfl rfl dX6_share_52 ?_
        refine g_iconst F dX6_share_53 ?_
        refine g_imul F dX6_share_54 ?_
        refine g_iload_n F 3 rfl rfl dX6_share_55 ?_
        refine g_iadd F dX6_share_56 ?_
        refine g_iload_n F 4 rfl rfl dX6_share_57 ?_
        refine g_iast F 10 rfl ((cn * 5) + vn) (by omega) (by omega) (by decide) (wC cA x (a 0) (x_ba) (x_sa) (x_qa) (x_ha) (x_so) ++ wP cA a (a_kd) (a_lo) (a_hi) (a_co) (a_pa) (a_rk) (a_nu) (a_ct) (va_up a_sa ((cn * 5) + vn) w) (((a_nc : Nat) : Int)) (((a_nr : Nat) : Int))) rfl dX6_share_58 ?_
        refine g_iload F 0 rfl dX6_share_59 ?_
        exact g_zret F rfl rfl (by decide) (by decide) ⟨congrArg (fun z => some (iv z)) (show (a_sa (cn * 5 + vn) : Int) = if (0 ≤ ((cn : Nat) : Int) ∧ ((cn : Nat) : Int) < (a_nr : Int)) ∧ (0 ≤ ((vn : Nat) : Int) ∧ ((vn : Nat) : Int) < (a_nc : Int)) ∧ -9 ≤ w ∧ w ≤ 9 then a_sa (((cn : Nat) : Int).toNat * 5 + ((vn : Nat) : Int).toNat) else -2000000001 by (try simp only [Int.toNat_natCast]); first | (rw [if_neg (by omega)]; done) | (rw [if_pos (by omega)]; done)), (by (try simp only [Int.toNat_natCast]); first | (rw [if_neg (by omega)]; done) | (rw [if_pos (by omega)]; done))⟩ dX6_share_61
      · skip
        refine g_ldc F (-2000000001) (by decide) (List.mem_of_getElem? (i := 2) rfl) dX6_share_31 ?_
        exact g_zret F rfl rfl (by decide) (by decide) ⟨congrArg (fun z => some (iv z)) (show (-2000000001 : Int) = if (0 ≤ ((cn : Nat) : Int) ∧ ((cn : Nat) : Int) < (a_nr : Int)) ∧ (0 ≤ ((vn : Nat) : Int) ∧ ((vn : Nat) : Int) < (a_nc : Int)) ∧ -9 ≤ w ∧ w ≤ 9 then a_sa (((cn : Nat) : Int).toNat * 5 + ((vn : Nat) : Int).toNat) else -2000000001 by (try simp only [Int.toNat_natCast]); first | (rw [if_neg (by omega)]; done) | (rw [if_pos (by omega)]; done)), (by (try simp only [Int.toNat_natCast]); first | (rw [if_neg (by omega)]; done) | (rw [if_pos (by omega)]; done))⟩ dX6_share_33
