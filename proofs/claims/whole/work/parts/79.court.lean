set_option maxHeartbeats 4000000 in
set_option maxRecDepth 100000 in
theorem kX6_told (l : Launch) (D : va_G) (cA : Nat → ClassId) (x : Nat → Nat) (x_ba : Nat) (x_sa : Nat) (x_qa : Nat) (x_ha : Nat) (x_so : Int) (a : Nat → Nat) (a_kd : Nat → Int) (a_lo : Nat → Int) (a_hi : Nat → Int) (a_co : Nat → Int) (a_pa : Nat → Int) (a_rk : Nat → Int) (a_nu : Nat → Int) (a_ct : Nat → Int) (a_sa : Nat → Int) (a_nc : Nat) (a_nr : Nat) (c : Int) (v : Int) (hc : -2147483648 ≤ c ∧ c ≤ 2147483647) (hv : -2147483648 ≤ v ∧ v ≤ 2147483647) (qnc : a_nc ≤ 5) (qnr : a_nr ≤ 7) (qkd : ∀ j, 0 ≤ a_kd j ∧ a_kd j ≤ 2) : CR l yX6_told wsX6_told ({ frames := 1, cells := 0, slots := 0, locals := 22 }) D cA [.ref (x 0), iv (c), iv (v)] (wC cA x (a 0) (x_ba) (x_sa) (x_qa) (x_ha) (x_so) ++ wP cA a (a_kd) (a_lo) (a_hi) (a_co) (a_pa) (a_rk) (a_nu) (a_ct) (a_sa) (((a_nc : Nat) : Int)) (((a_nr : Nat) : Int))) (fun ov => ov = some (iv (if 0 ≤ c ∧ c < (a_nr : Int) then (if v = 0 then a_rk c.toNat else if v = 1 then a_nu c.toNat else if v = 2 then a_ct c.toNat else if 2 < v ∧ v - 3 < (a_nc : Int) then a_sa (c.toNat * 5 + (v - 3).toNat) else -2000000001) else -2000000001))) := by
  refine CR.mk (cc := cX6_told) (maxL := 3) (ret := (some .int)) (by decide +kernel) rfl (Nat.le_of_ble_eq_true rfl) ?_
  intro p_ e_ s_ m_ b_ me_ c_ F
  have hV := @IR_P D s_
  have iX6 : ∀ w ∈ u_ws RX6 TX6 6, w ∈ wsX6_told := by decide +kernel
  have iX2 : ∀ w ∈ u_ws RX2 TX2 11, w ∈ wsX6_told := by decide +kernel
  refine g_lsub ([(0, .ref (x 0)), (1, iv (c)), (2, iv (v))]) [0, 1, 2] rfl ?_
  refine g_aload_n F 0 rfl rfl dX6_told_0 ?_
  refine g_get F hV iX6 0 rfl rfl 0 (by decide) (List.mem_of_getElem? (i := 1) rfl) rfl dX6_told_1 ?_
  refine g_iload_n F 1 rfl rfl dX6_told_4 ?_
  refine g_callRV F hV (As := [iv (c)]) (rest := []) (kX2_hasRow l D cA a a_kd a_lo a_hi a_co a_pa a_rk a_nu a_ct a_sa a_nc a_nr c (by omega) (qnr)) (cwV 1 F.2.2.2.2.1 gX6_told_X2_hasRow rfl rfl rfl (by decide +kernel) ⟨Nat.le_of_ble_eq_true rfl, Nat.le_of_ble_eq_true rfl⟩) rfl rfl (q0 := 0) rfl [1, 2, 3, 4, 5, 6, 7, 8, 9, 10] rfl rfl rfl (Nat.le_of_ble_eq_true rfl) ⟨Nat.le_of_ble_eq_true rfl, Nat.le_of_ble_eq_true rfl⟩ dX6_told_5 (fun v hv => ?_)
  subst hv
  refine g_eq (st' := [iv (if 0 ≤ c ∧ c < a_nr then 1 else 0)]) rfl rfl rfl ?_
  refine g_ifb_ne F (tgt := 14) dX6_told_8 (by decide) (fun c_1 => ?_) (fun c_1 => ?_)
  · skip
    obtain ⟨cn, hcn⟩ : ∃ y : Nat, c = (y : Int) := ⟨c.toNat, by omega⟩
    subst hcn
    refine g_iload_n F 2 rfl rfl dX6_told_14 ?_
    rcases (show v = 0 ∨ v = 1 ∨ v = 2 ∨ (v < 0 ∨ 2 < v) by omega) with k_2 | k_2 | k_2 | k_2
    · skip
      refine g_tswIn F (tgt := 40) 0 dX6_told_15 (by rw [k_2]; rfl) rfl (by decide) ⟨by omega, by omega⟩ (by omega) ?_
      refine g_aload_n F 0 rfl rfl dX6_told_40 ?_
      refine g_get F hV iX6 0 rfl rfl 0 (by decide) (List.mem_of_getElem? (i := 1) rfl) rfl dX6_told_41 ?_
      refine g_get F hV iX2 1 rfl rfl 5 (by decide) (List.mem_of_getElem? (i := 3) rfl) rfl dX6_told_44 ?_
      refine g_iload_n F 1 rfl rfl dX6_told_47 ?_
      refine g_iald F hV 7 rfl (cn) (by omega) (by omega) (by decide) dX6_told_48 ?_
      exact g_zretR F rfl rfl (congrArg (fun z => some (iv z)) (show (a_rk cn : Int) = if 0 ≤ ((cn : Nat) : Int) ∧ ((cn : Nat) : Int) < (a_nr : Int) then (if v = 0 then a_rk ((cn : Nat) : Int).toNat else if v = 1 then a_nu ((cn : Nat) : Int).toNat else if v = 2 then a_ct ((cn : Nat) : Int).toNat else if 2 < v ∧ v - 3 < (a_nc : Int) then a_sa (((cn : Nat) : Int).toNat * 5 + (v - 3).toNat) else -2000000001) else -2000000001 by (try simp only [Int.toNat_natCast]); first | (rw [if_neg (by omega)]; done) | (rw [if_pos (by omega), if_pos (by omega)]; done) | (rw [if_pos (by omega), if_neg (by omega), if_pos (by omega)]; done) | (rw [if_pos (by omega), if_neg (by omega), if_neg (by omega), if_pos (by omega)]; done) | (rw [if_pos (by omega), if_neg (by omega), if_neg (by omega), if_neg (by omega), if_pos (by omega), hpx, Int.toNat_natCast]; done) | (rw [if_pos (by omega), if_neg (by omega), if_neg (by omega), if_neg (by omega), if_neg (by omega)]; done))) dX6_told_49
    · skip
      refine g_tswIn F (tgt := 50) 1 dX6_told_15 (by rw [k_2]; rfl) rfl (by decide) ⟨by omega, by omega⟩ (by omega) ?_
      refine g_aload_n F 0 rfl rfl dX6_told_50 ?_
      refine g_get F hV iX6 0 rfl rfl 0 (by decide) (List.mem_of_getElem? (i := 1) rfl) rfl dX6_told_51 ?_
      refine g_get F hV iX2 1 rfl rfl 6 (by decide) (List.mem_of_getElem? (i := 4) rfl) rfl dX6_told_54 ?_
      refine g_iload_n F 1 rfl rfl dX6_told_57 ?_
      refine g_iald F hV 8 rfl (cn) (by omega) (by omega) (by decide) dX6_told_58 ?_
      exact g_zretR F rfl rfl (congrArg (fun z => some (iv z)) (show (a_nu cn : Int) = if 0 ≤ ((cn : Nat) : Int) ∧ ((cn : Nat) : Int) < (a_nr : Int) then (if v = 0 then a_rk ((cn : Nat) : Int).toNat else if v = 1 then a_nu ((cn : Nat) : Int).toNat else if v = 2 then a_ct ((cn : Nat) : Int).toNat else if 2 < v ∧ v - 3 < (a_nc : Int) then a_sa (((cn : Nat) : Int).toNat * 5 + (v - 3).toNat) else -2000000001) else -2000000001 by (try simp only [Int.toNat_natCast]); first | (rw [if_neg (by omega)]; done) | (rw [if_pos (by omega), if_pos (by omega)]; done) | (rw [if_pos (by omega), if_neg (by omega), if_pos (by omega)]; done) | (rw [if_pos (by omega), if_neg (by omega), if_neg (by omega), if_pos (by omega)]; done) | (rw [if_pos (by omega), if_neg (by omega), if_neg (by omega), if_neg (by omega), if_pos (by omega), hpx, Int.toNat_natCast]; done) | (rw [if_pos (by omega), if_neg (by omega), if_neg (by omega), if_neg (by omega), if_neg (by omega)]; done))) dX6_told_59
    · skip
      refine g_tswIn F (tgt := 60) 2 dX6_told_15 (by rw [k_2]; rfl) rfl (by decide) ⟨by omega, by omega⟩ (by omega) ?_
      refine g_aload_n F 0 rfl rfl dX6_told_60 ?_
      refine g_get F hV iX6 0 rfl rfl 0 (by decide) (List.mem_of_getElem? (i := 1) rfl) rfl dX6_told_61 ?_
      refine g_get F hV iX2 1 rfl rfl 7 (by decide) (List.mem_of_getElem? (i := 5) rfl) rfl dX6_told_64 ?_
      refine g_iload_n F 1 rfl rfl dX6_told_67 ?_
      refine g_iald F hV 9 rfl (cn) (by omega) (by omega) (by decide) dX6_told_68 ?_
      exact g_zretR F rfl rfl (congrArg (fun z => some (iv z)) (show (a_ct cn : Int) = if 0 ≤ ((cn : Nat) : Int) ∧ ((cn : Nat) : Int) < (a_nr : Int) then (if v = 0 then a_rk ((cn : Nat) : Int).toNat else if v = 1 then a_nu ((cn : Nat) : Int).toNat else if v = 2 then a_ct ((cn : Nat) : Int).toNat else if 2 < v ∧ v - 3 < (a_nc : Int) then a_sa (((cn : Nat) : Int).toNat * 5 + (v - 3).toNat) else -2000000001) else -2000000001 by (try simp only [Int.toNat_natCast]); first | (rw [if_neg (by omega)]; done) | (rw [if_pos (by omega), if_pos (by omega)]; done) | (rw [if_pos (by omega), if_neg (by omega), if_pos (by omega)]; done) | (rw [if_pos (by omega), if_neg (by omega), if_neg (by omega), if_pos (by omega)]; done) | (rw [if_pos (by omega), if_neg (by omega), if_neg (by omega), if_neg (by omega), if_pos (by omega), hpx, Int.toNat_natCast]; done) | (rw [if_pos (by omega), if_neg (by omega), if_neg (by omega), if_neg (by omega), if_neg (by omega)]; done))) dX6_told_69
    · skip
      refine g_tswOut F (tgt := 70) dX6_told_15 ⟨by omega, by omega⟩ (by omega) (by decide) ?_
      refine g_iload_n F 2 rfl rfl dX6_told_70 ?_
      refine g_iconst F dX6_told_71 ?_
      refine g_icmp_le F (tgt := 102) dX6_told_72 (by decide) ⟨by omega, by omega⟩ ⟨by decide, by decide⟩ (fun c_3 => ?_) (fun c_3 => ?_)
      · skip
        refine g_ldc F (-2000000001) (by decide) (List.mem_of_getElem? (i := 2) rfl) dX6_told_102 ?_
        exact g_zretR F rfl rfl (congrArg (fun z => some (iv z)) (show (-2000000001 : Int) = if 0 ≤ ((cn : Nat) : Int) ∧ ((cn : Nat) : Int) < (a_nr : Int) then (if v = 0 then a_rk ((cn : Nat) : Int).toNat else if v = 1 then a_nu ((cn : Nat) : Int).toNat else if v = 2 then a_ct ((cn : Nat) : Int).toNat else if 2 < v ∧ v - 3 < (a_nc : Int) then a_sa (((cn : Nat) : Int).toNat * 5 + (v - 3).toNat) else -2000000001) else -2000000001 by (try simp only [Int.toNat_natCast]); first | (rw [if_neg (by omega)]; done) | (rw [if_pos (by omega), if_pos (by omega)]; done) | (rw [if_pos (by omega), if_neg (by omega), if_pos (by omega)]; done) | (rw [if_pos (by omega), if_neg (by omega), if_neg (by omega), if_pos (by omega)]; done) | (rw [if_pos (by omega), if_neg (by omega), if_neg (by omega), if_neg (by omega), if_pos (by omega), hpx, Int.toNat_natCast]; done) | (rw [if_pos (by omega), if_neg (by omega), if_neg (by omega), if_neg (by omega), if_neg (by omega)]; done))) dX6_told_104
      · skip
        refine g_aload_n F 0 rfl rfl dX6_told_75 ?_
        refine g_get F hV iX6 0 rfl rfl 0 (by decide) (List.mem_of_getElem? (i := 1) rfl) rfl dX6_told_76 ?_
        refine g_iload_n F 2 rfl rfl dX6_told_79 ?_
        refine g_iconst F dX6_told_80 ?_
        refine g_isub F dX6_told_81 ?_
        refine g_callRV F hV (As := [iv (v - 3)]) (rest := []) (kX2_hasColumn l D cA a a_kd a_lo a_hi a_co a_pa a_rk a_nu a_ct a_sa a_nc a_nr (v - 3) (by omega) (qnc)) (cwV 1 F.2.2.2.2.1 gX6_told_X2_hasColumn rfl rfl rfl (by decide +kernel) ⟨Nat.le_of_ble_eq_true rfl, Nat.le_of_ble_eq_true rfl⟩) rfl rfl (q0 := 0) rfl [1, 2, 3, 4, 5, 6, 7, 8, 9, 10] rfl rfl rfl (Nat.le_of_ble_eq_true rfl) ⟨Nat.le_of_ble_eq_true rfl, Nat.le_of_ble_eq_true rfl⟩ dX6_told_82 (fun v hv => ?_)
        subst hv
        refine g_eq (st' := [iv (if 0 ≤ (v - 3) ∧ (v - 3) < a_nc then 1 else 0)]) rfl rfl rfl ?_
        refine g_ifb_eq F (tgt := 102) dX6_told_85 (by decide) (fun c_4 => ?_) (fun c_4 => ?_)
        · skip
          refine g_ldc F (-2000000001) (by decide) (List.mem_of_getElem? (i := 2) rfl) dX6_told_102 ?_
          exact g_zretR F rfl rfl (congrArg (fun z => some (iv z)) (show (-2000000001 : Int) = if 0 ≤ ((cn : Nat) : Int) ∧ ((cn : Nat) : Int) < (a_nr : Int) then (if v = 0 then a_rk ((cn : Nat) : Int).toNat else if v = 1 then a_nu ((cn : Nat) : Int).toNat else if v = 2 then a_ct ((cn : Nat) : Int).toNat else if 2 < v ∧ v - 3 < (a_nc : Int) then a_sa (((cn : Nat) : Int).toNat * 5 + (v - 3).toNat) else -2000000001) else -2000000001 by (try simp only [Int.toNat_natCast]); first | (rw [if_neg (by omega)]; done) | (rw [if_pos (by omega), if_pos (by omega)]; done) | (rw [if_pos (by omega), if_neg (by omega), if_pos (by omega)]; done) | (rw [if_pos (by omega), if_neg (by omega), if_neg (by omega), if_pos (by omega)]; done) | (rw [if_pos (by omega), if_neg (by omega), if_neg (by omega), if_neg (by omega), if_pos (by omega), hpx, Int.toNat_natCast]; done) | (rw [if_pos (by omega), if_neg (by omega), if_neg (by omega), if_neg (by omega), if_neg (by omega)]; done))) dX6_told_104
        · skip
          obtain ⟨px, hpx⟩ : ∃ px : Nat, v - 3 = (px : Int) := ⟨(v - 3).toNat, by omega⟩
          refine g_aload_n F 0 rfl rfl dX6_told_88 ?_
          refine g_get F hV iX6 0 rfl rfl 0 (by decide) (List.mem_of_getElem? (i := 1) rfl) rfl dX6_told_89 ?_
          refine g_iload_n F 1 rfl rfl dX6_told_92 ?_
          refine g_iload_n F 2 rfl rfl dX6_told_93 ?_
          refine g_iconst F dX6_told_94 ?_
          refine g_isub F dX6_told_95 ?_
          refine g_eq (st' := [iv (((px : Nat) : Int)), iv (((cn : Nat) : Int)), .ref (a 0)]) rfl rfl (congrArg (fun zz => [iv zz, iv (((cn : Nat) : Int)), .ref (a 0)]) (show (v - 3 : Int) = ((px : Nat) : Int) from hpx)) ?_
          refine g_callRV F hV (As := [iv (((cn : Nat) : Int)), iv (((px : Nat) : Int))]) (rest := []) (kX2_shareOf l D cA a a_kd a_lo a_hi a_co a_pa a_rk a_nu a_ct a_sa a_nc a_nr cn px (by omega) (by omega)) (cwV 2 F.2.2.2.2.1 gX6_told_X2_shareOf rfl rfl rfl (by decide +kernel) ⟨Nat.le_of_ble_eq_true rfl, Nat.le_of_ble_eq_true rfl⟩) rfl rfl (q0 := 0) rfl [1, 2, 3, 4, 5, 6, 7, 8, 9, 10] rfl rfl rfl (Nat.le_of_ble_eq_true rfl) ⟨Nat.le_of_ble_eq_true rfl, Nat.le_of_ble_eq_true rfl⟩ dX6_told_96 (fun v hv => ?_)
          subst hv
          refine g_eq (st' := [iv (a_sa (cn * 5 + px))]) rfl rfl rfl ?_
          refine g_goto F (tgt := 104) dX6_told_99 (by decide) ?_
          exact g_zretR F rfl rfl (congrArg (fun z => some (iv z)) (show (a_sa (cn * 5 + px) : Int) = if 0 ≤ ((cn : Nat) : Int) ∧ ((cn : Nat) : Int) < (a_nr : Int) then (if v = 0 then a_rk ((cn : Nat) : Int).toNat else if v = 1 then a_nu ((cn : Nat) : Int).toNat else if v = 2 then a_ct ((cn : Nat) : Int).toNat else if 2 < v ∧ v - 3 < (a_nc : Int) then a_sa (((cn : Nat) : Int).toNat * 5 + (v - 3).toNat) else -2000000001) else -2000000001 by (try simp only [Int.toNat_natCast]); first | (rw [if_neg (by omega)]; done) | (rw [if_pos (by omega), if_pos (by omega)]; done) | (rw [if_pos (by omega), if_neg (by omega), if_pos (by omega)]; done) | (rw [if_pos (by omega), if_neg (by omega), if_neg (by omega), if_pos (by omega)]; done) | (rw [if_pos (by omega), if_neg (by omega), if_neg (by omega), if_neg (by omega), if_pos (by omega), hpx, Int.toNat_natCast]; done) | (rw [if_pos (by omega), if_neg (by omega), if_neg (by omega), if_neg (by omega), if_neg (by omega)]; done))) dX6_told_104
  · skip
    refine g_ldc F (-2000000001) (by decide) (List.mem_of_getElem? (i := 2) rfl) dX6_told_11 ?_
    exact g_zretR F rfl rfl (congrArg (fun z => some (iv z)) (show (-2000000001 : Int) = if 0 ≤ c ∧ c < (a_nr : Int) then (if v = 0 then a_rk c.toNat else if v = 1 then a_nu c.toNat else if v = 2 then a_ct c.toNat else if 2 < v ∧ v - 3 < (a_nc : Int) then a_sa (c.toNat * 5 + (v - 3).toNat) else -2000000001) else -2000000001 by (try simp only [Int.toNat_natCast]); first | (rw [if_neg (by omega)]; done) | (rw [if_pos (by omega), if_pos (by omega)]; done) | (rw [if_pos (by omega), if_neg (by omega), if_pos (by omega)]; done) | (rw [if_pos (by omega), if_neg (by omega), if_neg (by omega), if_pos (by omega)]; done) | (rw [if_pos (by omega), if_neg (by omega), if_neg (by omega), if_neg (by omega), if_pos (by omega), hpx, Int.toNat_natCast]; done) | (rw [if_pos (by omega), if_neg (by omega), if_neg (by omega), if_neg (by omega), if_neg (by omega)]; done))) dX6_told_13
