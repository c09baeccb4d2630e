set_option maxHeartbeats 4000000 in
set_option maxRecDepth 100000 in
theorem kX6_isOf (l : Launch) (D : va_G) (cA : Nat → ClassId) (x : Nat → Nat) (x_ba : Nat) (x_sa : Nat) (x_qa : Nat) (x_ha : Nat) (x_so : Int) (a : Nat → Nat) (a_kd : Nat → Int) (a_lo : Nat → Int) (a_hi : Nat → Int) (a_co : Nat → Int) (a_pa : Nat → Int) (a_rk : Nat → Int) (a_nu : Nat → Int) (a_ct : Nat → Int) (a_sa : Nat → Int) (a_nc : Nat) (a_nr : Nat) (c : Int) (v : Int) (hc : -2147483648 ≤ c ∧ c ≤ 2147483647) (hv : -2147483648 ≤ v ∧ v ≤ 2147483647) (qnc : a_nc ≤ 5) (qnr : a_nr ≤ 7) (qkd : ∀ j, 0 ≤ a_kd j ∧ a_kd j ≤ 2) : CR l yX6_isOf wsX6_isOf ({ frames := 1, cells := 0, slots := 0, locals := 21 }) D cA [.ref (x 0), iv (c), iv (v)] (wC cA x (a 0) (x_ba) (x_sa) (x_qa) (x_ha) (x_so) ++ wP cA a (a_kd) (a_lo) (a_hi) (a_co) (a_pa) (a_rk) (a_nu) (a_ct) (a_sa) (((a_nc : Nat) : Int)) (((a_nr : Nat) : Int))) (fun ov => ov = some (iv (if (0 ≤ c ∧ c < (a_nc : Int)) ∧ 0 ≤ v ∧ v ≤ 2 then (if v ≤ a_kd c.toNat then 1 else 0) else -2000000001))) := by
  refine CR.mk (cc := cX6_isOf) (maxL := 3) (ret := (some .int)) (by decide +kernel) rfl (Nat.le_of_ble_eq_true rfl) ?_
  intro p_ e_ s_ m_ b_ me_ c_ F
  have hV := @IR_P D s_
  have iX6 : ∀ w ∈ u_ws RX6 TX6 6, w ∈ wsX6_isOf := by decide +kernel
  have iX2 : ∀ w ∈ u_ws RX2 TX2 11, w ∈ wsX6_isOf := by decide +kernel
  refine g_lsub ([(0, .ref (x 0)), (1, iv (c)), (2, iv (v))]) [0, 1, 2] rfl ?_
  refine g_aload_n F 0 rfl rfl dX6_isOf_0 ?_
  refine g_get F hV iX6 0 rfl rfl 0 (by decide) (List.mem_of_getElem? (i := 1) rfl) rfl dX6_isOf_1 ?_
  refine g_iload_n F 1 rfl rfl dX6_isOf_4 ?_
  refine g_callRV F hV (As := [iv (c)]) (rest := []) (kX2_hasColumn l D cA a a_kd a_lo a_hi a_co a_pa a_rk a_nu a_ct a_sa a_nc a_nr c (by omega) (qnc)) (cwV 1 F.2.2.2.2.1 gX6_isOf_X2_hasColumn rfl rfl rfl (by decide +kernel) ⟨Nat.le_of_ble_eq_true rfl, Nat.le_of_ble_eq_true rfl⟩) rfl rfl (q0 := 0) rfl [1, 2, 3, 4, 5, 6, 7, 8, 9, 10] rfl rfl rfl (Nat.le_of_ble_eq_true rfl) ⟨Nat.le_of_ble_eq_true rfl, Nat.le_of_ble_eq_true rfl⟩ dX6_isOf_5 (fun v hv => ?_)
  subst hv
  refine g_eq (st' := [iv (if 0 ≤ c ∧ c < a_nc then 1 else 0)]) rfl rfl rfl ?_
  refine g_ifb_eq F (tgt := 18) dX6_isOf_8 (by decide) (fun c_1 => ?_) (fun c_1 => ?_)
  · skip
    refine g_ldc F (-2000000001) (by decide) (List.mem_of_getElem? (i := 2) rfl) dX6_isOf_18 ?_
    exact g_zretR F rfl rfl (congrArg (fun z => some (iv z)) (show (-2000000001 : Int) = if (0 ≤ c ∧ c < (a_nc : Int)) ∧ 0 ≤ v ∧ v ≤ 2 then (if v ≤ a_kd c.toNat then 1 else 0) else -2000000001 by first | (rw [if_neg (by omega)]; done) | (rw [if_pos (by omega), Int.toNat_natCast, if_pos (by omega)]; done) | (rw [if_pos (by omega), Int.toNat_natCast, if_neg (by omega)]; done))) dX6_isOf_20
  · skip
    obtain ⟨cn, hcn⟩ : ∃ y : Nat, c = (y : Int) := ⟨c.toNat, by omega⟩
    subst hcn
    refine g_iload_n F 2 rfl rfl dX6_isOf_11 ?_
    refine g_callRS F hV (As := [iv (v)]) (rest := []) (kX6_isKind l D cA v (by omega)) (va_cwS 1 F.2.2.2.2.1 gX6_isOf_X6_isKind rfl rfl rfl (by decide +kernel) ⟨Nat.le_of_ble_eq_true rfl, Nat.le_of_ble_eq_true rfl⟩) [] rfl rfl rfl (Nat.le_of_ble_eq_true rfl) ⟨Nat.le_of_ble_eq_true rfl, Nat.le_of_ble_eq_true rfl⟩ dX6_isOf_12 (fun v hv => ?_)
    subst hv
    refine g_eq (st' := [iv (if 0 ≤ v ∧ v ≤ 2 then 1 else 0)]) rfl rfl rfl ?_
    refine g_ifb_ne F (tgt := 21) dX6_isOf_15 (by decide) (fun c_2 => ?_) (fun c_2 => ?_)
    · skip
      refine g_aload_n F 0 rfl rfl dX6_isOf_21 ?_
      refine g_get F hV iX6 0 rfl rfl 0 (by decide) (List.mem_of_getElem? (i := 1) rfl) rfl dX6_isOf_22 ?_
      refine g_get F hV iX2 1 rfl rfl 0 (by decide) (List.mem_of_getElem? (i := 3) rfl) rfl dX6_isOf_25 ?_
      refine g_iload_n F 1 rfl rfl dX6_isOf_28 ?_
      have r_3 := qkd (cn)
      refine g_iald F hV 2 rfl (cn) (by omega) (by omega) (by decide) dX6_isOf_29 ?_
      refine g_iload_n F 2 rfl rfl dX6_isOf_30 ?_
      refine g_icmp_lt F (tgt := 38) dX6_isOf_31 (by decide) ⟨by omega, by omega⟩ ⟨by omega, by omega⟩ (fun c_4 => ?_) (fun c_4 => ?_)
      · skip
        refine g_iconst F dX6_isOf_38 ?_
        exact g_zretR F rfl rfl (congrArg (fun z => some (iv z)) (show (0 : Int) = if (0 ≤ ((cn : Nat) : Int) ∧ ((cn : Nat) : Int) < (a_nc : Int)) ∧ 0 ≤ v ∧ v ≤ 2 then (if v ≤ a_kd ((cn : Nat) : Int).toNat then 1 else 0) else -2000000001 by first | (rw [if_neg (by omega)]; done) | (rw [if_pos (by omega), Int.toNat_natCast, if_pos (by omega)]; done) | (rw [if_pos (by omega), Int.toNat_natCast, if_neg (by omega)]; done))) dX6_isOf_39
      · skip
        refine g_iconst F dX6_isOf_34 ?_
        refine g_goto F (tgt := 39) dX6_isOf_35 (by decide) ?_
        exact g_zretR F rfl rfl (congrArg (fun z => some (iv z)) (show (1 : Int) = if (0 ≤ ((cn : Nat) : Int) ∧ ((cn : Nat) : Int) < (a_nc : Int)) ∧ 0 ≤ v ∧ v ≤ 2 then (if v ≤ a_kd ((cn : Nat) : Int).toNat then 1 else 0) else -2000000001 by first | (rw [if_neg (by omega)]; done) | (rw [if_pos (by omega), Int.toNat_natCast, if_pos (by omega)]; done) | (rw [if_pos (by omega), Int.toNat_natCast, if_neg (by omega)]; done))) dX6_isOf_39
    · skip
      refine g_ldc F (-2000000001) (by decide) (List.mem_of_getElem? (i := 2) rfl) dX6_isOf_18 ?_
      exact g_zretR F rfl rfl (congrArg (fun z => some (iv z)) (show (-2000000001 : Int) = if (0 ≤ ((cn : Nat) : Int) ∧ ((cn : Nat) : Int) < (a_nc : Int)) ∧ 0 ≤ v ∧ v ≤ 2 then (if v ≤ a_kd ((cn : Nat) : Int).toNat then 1 else 0) else -2000000001 by first | (rw [if_neg (by omega)]; done) | (rw [if_pos (by omega), Int.toNat_natCast, if_pos (by omega)]; done) | (rw [if_pos (by omega), Int.toNat_natCast, if_neg (by omega)]; done))) dX6_isOf_20

set_option maxHeartbeats 4000000 in
set_option maxRecDepth 100000 in
theorem kX6_about (l : Launch) (D : va_G) (cA : Nat → ClassId) (x : Nat → Nat) (x_ba : Nat) (x_sa : Nat) (x_qa : Nat) (x_ha : Nat) (x_so : Int) (a : Nat → Nat) (a_kd : Nat → Int) (a_lo : Nat → Int) (a_hi : Nat → Int) (a_co : Nat → Int) (a_pa : Nat → Int) (a_rk : Nat → Int) (a_nu : Nat → Int) (a_ct : Nat → Int) (a_sa : Nat → Int) (a_nc : Nat) (a_nr : Nat) (c : Int) (v : Int) (hc : -2147483648 ≤ c ∧ c ≤ 2147483647) (hv : -2147483648 ≤ v ∧ v ≤ 2147483647) (qnc : a_nc ≤ 5) (qnr : a_nr ≤ 7) (qkd : ∀ j, 0 ≤ a_kd j ∧ a_kd j ≤ 2) : CR l yX6_about wsX6_about ({ frames := 1, cells := 0, slots := 0, locals := 21 }) D cA [.ref (x 0), iv (c), iv (v)] (wC cA x (a 0) (x_ba) (x_sa) (x_qa) (x_ha) (x_so) ++ wP cA a (a_kd) (a_lo) (a_hi) (a_co) (a_pa) (a_rk) (a_nu) (a_ct) (a_sa) (((a_nc : Nat) : Int)) (((a_nr : Nat) : Int))) (fun ov => ov = some (iv (if 0 ≤ c ∧ c < (a_nc : Int) then (if v = 0 then a_lo c.toNat else if v = 1 then a_hi c.toNat else if v = 2 then a_co c.toNat else if v = 3 then a_pa c.toNat else -2000000001) else -2000000001))) := by
  refine CR.mk (cc := cX6_about) (maxL := 3) (ret := (some .int)) (by decide +kernel) rfl (Nat.le_of_ble_eq_true rfl) ?_
  intro p_ e_ s_ m_ b_ me_ c_ F
  have hV := @IR_P D s_
  have iX6 : ∀ w ∈ u_ws RX6 TX6 6, w ∈ wsX6_about := by decide +kernel
  have iX2 : ∀ w ∈ u_ws RX2 TX2 11, w ∈ wsX6_about := by decide +kernel
  refine g_lsub ([(0, .ref (x 0)), (1, iv (c)), (2, iv (v))]) [0, 1, 2] rfl ?_
  refine g_aload_n F 0 rfl rfl dX6_about_0 ?_
  refine g_get F hV iX6 0 rfl rfl 0 (by decide) (List.mem_of_getElem? (i := 1) rfl) rfl dX6_about_1 ?_
  refine g_iload_n F 1 rfl rfl dX6_about_4 ?_
  refine g_callRV F hV (As := [iv (c)]) (rest := []) (kX2_hasColumn l D cA a a_kd a_lo a_hi a_co a_pa a_rk a_nu a_ct a_sa a_nc a_nr c (by omega) (qnc)) (cwV 1 F.2.2.2.2.1 gX6_about_X2_hasColumn rfl rfl rfl (by decide +kernel) ⟨Nat.le_of_ble_eq_true rfl, Nat.le_of_ble_eq_true rfl⟩) rfl rfl (q0 := 0) rfl [1, 2, 3, 4, 5, 6, 7, 8, 9, 10] rfl rfl rfl (Nat.le_of_ble_eq_true rfl) ⟨Nat.le_of_ble_eq_true rfl, Nat.le_of_ble_eq_true rfl⟩ dX6_about_5 (fun v hv => ?_)
  subst hv
  refine g_eq (st' := [iv (if 0 ≤ c ∧ c < a_nc then 1 else 0)]) rfl rfl rfl ?_
  refine g_ifb_ne F (tgt := 14) dX6_about_8 (by decide) (fun c_1 => ?_) (fun c_1 => ?_)
  · skip
    obtain ⟨cn, hcn⟩ : ∃ y : Nat, c = (y : Int) := ⟨c.toNat, by omega⟩
    subst hcn
    refine g_iload_n F 2 rfl rfl dX6_about_14 ?_
    rcases (show v = 0 ∨ v = 1 ∨ v = 2 ∨ v = 3 ∨ (v < 0 ∨ 3 < v) by omega) with k_2 | k_2 | k_2 | k_2 | k_2
    · skip
      refine g_tswIn F (tgt := 44) 0 dX6_about_15 (by rw [k_2]; rfl) rfl (by decide) ⟨by omega, by omega⟩ (by omega) ?_
      refine g_aload_n F 0 rfl rfl dX6_about_44 ?_
      refine g_get F hV iX6 0 rfl rfl 0 (by decide) (List.mem_of_getElem? (i := 1) rfl) rfl dX6_about_45 ?_
      refine g_get F hV iX2 1 rfl rfl 1 (by decide) (List.mem_of_getElem? (i := 3) rfl) rfl dX6_about_48 ?_
      refine g_iload_n F 1 rfl rfl dX6_about_51 ?_
      refine g_iald F hV 3 rfl (cn) (by omega) (by omega) (by decide) dX6_about_52 ?_
      exact g_zretR F rfl rfl (congrArg (fun z => some (iv z)) (show (a_lo cn : Int) = if 0 ≤ ((cn : Nat) : Int) ∧ ((cn : Nat) : Int) < (a_nc : Int) then (if v = 0 then a_lo ((cn : Nat) : Int).toNat else if v = 1 then a_hi ((cn : Nat) : Int).toNat else if v = 2 then a_co ((cn : Nat) : Int).toNat else if v = 3 then a_pa ((cn : Nat) : Int).toNat else -2000000001) else -2000000001 by first | (rw [if_neg (by omega)]; done) | (rw [if_pos (by omega), Int.toNat_natCast, if_pos (by omega)]; done) | (rw [if_pos (by omega), Int.toNat_natCast, if_neg (by omega), if_pos (by omega)]; done) | (rw [if_pos (by omega), Int.toNat_natCast, if_neg (by omega), if_neg (by omega), if_pos (by omega)]; done) | (rw [if_pos (by omega), Int.toNat_natCast, if_neg (by omega), if_neg (by omega), if_neg (by omega), if_pos (by omega)]; done) | (rw [if_pos (by omega), Int.toNat_natCast, if_neg (by omega), if_neg (by omega), if_neg (by omega), if_neg (by omega)]; done))) dX6_about_53
    · skip
      refine g_tswIn F (tgt := 54) 1 dX6_about_15 (by rw [k_2]; rfl) rfl (by decide) ⟨by omega, by omega⟩ (by omega) ?_
      refine g_aload_n F 0 rfl rfl dX6_about_54 ?_
      refine g_get F hV iX6 0 rfl rfl 0 (by decide) (List.mem_of_getElem? (i := 1) rfl) rfl dX6_about_55 ?_
      refine g_get F hV iX2 1 rfl rfl 2 (by decide) (List.mem_of_getElem? (i := 4) rfl) rfl dX6_about_58 ?_
      refine g_iload_n F 1 rfl rfl dX6_about_61 ?_
      refine g_iald F hV 4 rfl (cn) (by omega) (by omega) (by decide) dX6_about_62 ?_
      exact g_zretR F rfl rfl (congrArg (fun z => some (iv z)) (show (a_hi cn : Int) = if 0 ≤ ((cn : Nat) : Int) ∧ ((cn : Nat) : Int) < (a_nc : Int) then (if v = 0 then a_lo ((cn : Nat) : Int).toNat else if v = 1 then a_hi ((cn : Nat) : Int).toNat else if v = 2 then a_co ((cn : Nat) : Int).toNat else if v = 3 then a_pa ((cn : Nat) : Int).toNat else -2000000001) else -2000000001 by first | (rw [if_neg (by omega)]; done) | (rw [if_pos (by omega), Int.toNat_natCast, if_pos (by omega)]; done) | (rw [if_pos (by omega), Int.toNat_natCast, if_neg (by omega), if_pos (by omega)]; done) | (rw [if_pos (by omega), Int.toNat_natCast, if_neg (by omega), if_neg (by omega), if_pos (by omega)]; done) | (rw [if_pos (by omega), Int.toNat_natCast, if_neg (by omega), if_neg (by omega), if_neg (by omega), if_pos (by omega)]; done) | (rw [if_pos (by omega), Int.toNat_natCast, if_neg (by omega), if_neg (by omega), if_neg (by omega), if_neg (by omega)]; done))) dX6_about_63
    · skip
      refine g_tswIn F (tgt := 64) 2 dX6_about_15 (by rw [k_2]; rfl) rfl (by decide) ⟨by omega, by omega⟩ (by omega) ?_
      refine g_aload_n F 0 rfl rfl dX6_about_64 ?_
      refine g_get F hV iX6 0 rfl rfl 0 (by decide) (List.mem_of_getElem? (i := 1) rfl) rfl dX6_about_65 ?_
      refine g_get F hV iX2 1 rfl rfl 3 (by decide) (List.mem_of_getElem? (i := 5) rfl) rfl dX6_about_68 ?_
      refine g_iload_n F 1 rfl rfl dX6_about_71 ?_
      refine g_iald F hV 5 rfl (cn) (by omega) (by omega) (by decide) dX6_about_72 ?_
      exact g_zretR F rfl rfl (congrArg (fun z => some (iv z)) (show (a_co cn : Int) = if 0 ≤ ((cn : Nat) : Int) ∧ ((cn : Nat) : Int) < (a_nc : Int) then (if v = 0 then a_lo ((cn : Nat) : Int).toNat else if v = 1 then a_hi ((cn : Nat) : Int).toNat else if v = 2 then a_co ((cn : Nat) : Int).toNat else if v = 3 then a_pa ((cn : Nat) : Int).toNat else -2000000001) else -2000000001 by first | (rw [if_neg (by omega)]; done) | (rw [if_pos (by omega), Int.toNat_natCast, if_pos (by omega)]; done) | (rw [if_pos (by omega), Int.toNat_natCast, if_neg (by omega), if_pos (by omega)]; done) | (rw [if_pos (by omega), Int.toNat_natCast, if_neg (by omega), if_neg (by omega), if_pos (by omega)]; done) | (rw [if_pos (by omega), Int.toNat_natCast, if_neg (by omega), if_neg (by omega), if_neg (by omega), if_pos (by omega)]; done) | (rw [if_pos (by omega), Int.toNat_natCast, if_neg (by omega), if_neg (by omega), if_neg (by omega), if_neg (by omega)]; done))) dX6_about_73
    · skip
      refine g_tswIn F (tgt := 74) 3 dX6_about_15 (by rw [k_2]; rfl) rfl (by decide) ⟨by omega, by omega⟩ (by omega) ?_
      refine g_aload_n F 0 rfl rfl dX6_about_74 ?_
      refine g_get F hV iX6 0 rfl rfl 0 (by decide) (List.mem_of_getElem? (i := 1) rfl) rfl dX6_about_75 ?_
      refine g_get F hV iX2 1 rfl rfl 4 (by decide) (List.mem_of_getElem? (i := 6) rfl) rfl dX6_about_78 ?_
      refine g_iload_n F 1 rfl rfl dX6_about_81 ?_
      refine g_iald F hV 6 rfl (cn) (by omega) (by omega) (by decide) dX6_about_82 ?_
      exact g_zretR F rfl rfl (congrArg (fun z => some (iv z)) (show (a_pa cn : Int) = if 0 ≤ ((cn : Nat) : Int) ∧ ((cn : Nat) : Int) < (a_nc : Int) then (if v = 0 then a_lo ((cn : Nat) : Int).toNat else if v = 1 then a_hi ((cn : Nat) : Int).toNat else if v = 2 then a_co ((cn : Nat) : Int).toNat else if v = 3 then a_pa ((cn : Nat) : Int).toNat else -2000000001) else -2000000001 by first | (rw [if_neg (by omega)]; done) | (rw [if_pos (by omega), Int.toNat_natCast, if_pos (by omega)]; done) | (rw [if_pos (by omega), Int.toNat_natCast, if_neg (by omega), if_pos (by omega)]; done) | (rw [if_pos (by omega), Int.toNat_natCast, if_neg (by omega), if_neg (by omega), if_pos (by omega)]; done) | (rw [if_pos (by omega), Int.toNat_natCast, if_neg (by omega), if_neg (by omega), if_neg (by omega), if_pos (by omega)]; done) | (rw [if_pos (by omega), Int.toNat_natCast, if_neg (by omega), if_neg (by omega), if_neg (by omega), if_neg (by omega)]; done))) dX6_about_83
    · skip
      refine g_tswOut F (tgt := 84) dX6_about_15 ⟨by omega, by omega⟩ (by omega) (by decide) ?_
      refine g_ldc F (-2000000001) (by decide) (List.mem_of_getElem? (i := 2) rfl) dX6_about_84 ?_
      exact g_zretR F rfl rfl (congrArg (fun z => some (iv z)) (show (-2000000001 : Int) = if 0 ≤ ((cn : Nat) : Int) ∧ ((cn : Nat) : Int) < (a_nc : Int) then (if v = 0 then a_lo ((cn : Nat) : Int).toNat else if v = 1 then a_hi ((cn : Nat) : Int).toNat else if v = 2 then a_co ((cn : Nat) : Int).toNat else if v = 3 then a_pa ((cn : Nat) : Int).toNat else -2000000001) else -2000000001 by first | (rw [if_neg (by omega)]; done) | (rw [if_pos (by omega), Int.toNat_natCast, if_pos (by omega)]; done) | (rw [if_pos (by omega), Int.toNat_natCast, if_neg (by omega), if_pos (by omega)]; done) | (rw [if_pos (by omega), Int.toNat_natCast, if_neg (by omega), if_neg (by omega), if_pos (by omega)]; done) | (rw [if_pos (by omega), Int.toNat_natCast, if_neg (by omega), if_neg (by omega), if_neg (by omega), if_pos (by omega)]; done) | (rw [if_pos (by omega), Int.toNat_natCast, if_neg (by omega), if_neg (by omega), if_neg (by omega), if_neg (by omega)]; done))) dX6_about_86
  · skip
    refine g_ldc F (-2000000001) (by decide) (List.mem_of_getElem? (i := 2) rfl) dX6_about_11 ?_
    exact g_zretR F rfl rfl (congrArg (fun z => some (iv z)) (show (-2000000001 : Int) = if 0 ≤ c ∧ c < (a_nc : Int) then (if v = 0 then a_lo c.toNat else if v = 1 then a_hi c.toNat else if v = 2 then a_co c.toNat else if v = 3 then a_pa c.toNat else -2000000001) else -2000000001 by first | (rw [if_neg (by omega)]; done) | (rw [if_pos (by omega), Int.toNat_natCast, if_pos (by omega)]; done) | (rw [if_pos (by omega), Int.toNat_natCast, if_neg (by omega), if_pos (by omega)]; done) | (rw [if_pos (by omega), Int.toNat_natCast, if_neg (by omega), if_neg (by omega), if_pos (by omega)]; done) | (rw [if_pos (by omega), Int.toNat_natCast, if_neg (by omega), if_neg (by omega), if_neg (by omega), if_pos (by omega)]; done) | (rw [if_pos (by omega), Int.toNat_natCast, if_neg (by omega), if_neg (by omega), if_neg (by omega), if_neg (by omega)]; done))) dX6_about_13
