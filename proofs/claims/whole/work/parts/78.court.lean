set_option maxHeartbeats 4000000 in
set_option maxRecDepth 100000 in
theorem kX6_value (l : Launch) (D : va_G) (cA : Nat → ClassId) (x : Nat → Nat) (x_sa : Nat) (x_qa : Nat) (x_ha : Nat) (x_so : Int) (a : Nat → Nat) (a_kd : Nat → Int) (a_lo : Nat → Int) (a_hi : Nat → Int) (a_co : Nat → Int) (a_pa : Nat → Int) (a_rk : Nat → Int) (a_nu : Nat → Int) (a_ct : Nat → Int) (a_sa : Nat → Int) (a_nc : Nat) (a_nr : Nat) (b : Nat → Nat) (b_va : Nat → Int) (b_cost : Int) (b_bel : Int) (b_out : Int) (c : Int) (v : Int) (hc : -2147483648 ≤ c ∧ c ≤ 2147483647) (hv : -2147483648 ≤ v ∧ v ≤ 2147483647) (qnc : a_nc ≤ 5) (qnr : a_nr ≤ 7) (qkd : ∀ j, 0 ≤ a_kd j ∧ a_kd j ≤ 2) (hbb : 0 < b_bel ∧ b_bel ≤ 8000000) (hbv : ∀ j, -200000000000 ≤ b_va j ∧ b_va j ≤ 200000000000) (hbc : -200000000000 ≤ b_cost ∧ b_cost ≤ 200000000000) (hbo : 0 ≤ b_out ∧ b_out ≤ 3) : CR l yX6_value wsX6_value ({ frames := 3, cells := 0, slots := 0, locals := 80 }) D cA [.ref (x 0), iv (c), iv (v)] (wC cA x (a 0) (b 0) (x_sa) (x_qa) (x_ha) (x_so) ++ wP cA a (a_kd) (a_lo) (a_hi) (a_co) (a_pa) (a_rk) (a_nu) (a_ct) (a_sa) (((a_nc : Nat) : Int)) (((a_nr : Nat) : Int)) ++ wB cA b (b_va) (b_cost) (b_bel) (b_out)) (fun ov => ov = some (jv (if (0 ≤ c ∧ c < (a_nc : Int)) ∧ (v = 0 ∨ v = 1) then (if b_out = 0 then lowZ (b_va c.toNat) b_bel v else -2000000002) else -2000000001))) := by
  refine CR.mk (cc := cX6_value) (maxL := 3) (ret := (some .long)) (by decide +kernel) rfl (Nat.le_of_ble_eq_true rfl) ?_
  intro p_ e_ s_ m_ b_ me_ c_ F
  have hV := @IR_P D s_
  have iX0 : ∀ w ∈ u_ws RX0 TX0 4, w ∈ wsX6_value := by decide +kernel
  have iX6 : ∀ w ∈ u_ws RX6 TX6 6, w ∈ wsX6_value := by decide +kernel
  refine g_lsub ([(0, .ref (x 0)), (1, iv (c)), (2, iv (v))]) [0, 1, 2] rfl ?_
  refine g_aload_n F 0 rfl rfl dX6_value_0 ?_
  refine g_get F hV iX6 0 rfl rfl 0 (by decide) (List.mem_of_getElem? (i := 1) rfl) rfl dX6_value_1 ?_
  refine g_iload_n F 1 rfl rfl dX6_value_4 ?_
  refine g_callRV F hV (As := [iv (c)]) (rest := []) (kX2_hasColumn l D cA a a_kd a_lo a_hi a_co a_pa a_rk a_nu a_ct a_sa a_nc a_nr c (by omega) (qnc)) (cwV 1 F.2.2.2.2.1 gX6_value_X2_hasColumn rfl rfl rfl (by decide +kernel) ⟨Nat.le_of_ble_eq_true rfl, Nat.le_of_ble_eq_true rfl⟩) rfl rfl (q0 := 0) rfl [1, 2, 3, 4, 5, 6, 7, 8, 9, 10] rfl rfl rfl (Nat.le_of_ble_eq_true rfl) ⟨Nat.le_of_ble_eq_true rfl, Nat.le_of_ble_eq_true rfl⟩ dX6_value_5 (fun v hv => ?_)
  subst hv
  refine g_eq (st' := [iv (if 0 ≤ c ∧ c < a_nc then 1 else 0)]) rfl rfl rfl ?_
  refine g_ifb_eq F (tgt := 18) dX6_value_8 (by decide) (fun c_1 => ?_) (fun c_1 => ?_)
  · skip
    refine g_ldc2 F (-2000000001) (by decide) (List.mem_of_getElem? (i := 2) rfl) dX6_value_18 ?_
    exact g_lretR F rfl (congrArg (fun z => some (jv z)) (show (-2000000001 : Int) = if (0 ≤ c ∧ c < (a_nc : Int)) ∧ (v = 0 ∨ v = 1) then (if b_out = 0 then lowZ (b_va c.toNat) b_bel v else -2000000002) else -2000000001 by (try simp only [Int.toNat_natCast]); first | (rw [if_neg (by omega)]; done) | (rw [if_pos (by omega), if_pos (by omega)]; done) | (rw [if_pos (by omega), if_neg (by omega)]; done))) dX6_value_21
  · skip
    obtain ⟨cn, hcn⟩ : ∃ y : Nat, c = (y : Int) := ⟨c.toNat, by omega⟩
    subst hcn
    refine g_iload_n F 2 rfl rfl dX6_value_11 ?_
    refine g_callRS F hV (As := [iv (v)]) (rest := []) (kX6_isBit l D cA v (by omega)) (va_cwS 1 F.2.2.2.2.1 gX6_value_X6_isBit rfl rfl rfl (by decide +kernel) ⟨Nat.le_of_ble_eq_true rfl, Nat.le_of_ble_eq_true rfl⟩) [] rfl rfl rfl (Nat.le_of_ble_eq_true rfl) ⟨Nat.le_of_ble_eq_true rfl, Nat.le_of_ble_eq_true rfl⟩ dX6_value_12 (fun v hv => ?_)
    subst hv
    refine g_eq (st' := [iv (if v = 0 ∨ v = 1 then 1 else 0)]) rfl rfl rfl ?_
    refine g_ifb_ne F (tgt := 22) dX6_value_15 (by decide) (fun c_2 => ?_) (fun c_2 => ?_)
    · skip
      refine g_aload_n F 0 rfl rfl dX6_value_22 ?_
      refine g_get F hV iX6 0 rfl rfl 1 (by decide) (List.mem_of_getElem? (i := 3) rfl) rfl dX6_value_23 ?_
      refine g_get F hV iX0 11 rfl rfl 3 (by decide) (List.mem_of_getElem? (i := 4) rfl) rfl dX6_value_26 ?_
      refine g_if_eq F (tgt := 36) dX6_value_29 (by decide) ⟨by omega, by omega⟩ (fun c_3 => ?_) (fun c_3 => ?_)
      · skip
        refine g_aload_n F 0 rfl rfl dX6_value_36 ?_
        refine g_get F hV iX6 0 rfl rfl 1 (by decide) (List.mem_of_getElem? (i := 3) rfl) rfl dX6_value_37 ?_
        refine g_get F hV iX0 11 rfl rfl 0 (by decide) (List.mem_of_getElem? (i := 6) rfl) rfl dX6_value_40 ?_
        refine g_iload_n F 1 rfl rfl dX6_value_43 ?_
        have r_4 := hbv (cn)
        refine g_lald F hV 12 rfl (cn) (by omega) (by omega) (by decide) dX6_value_44 ?_
        refine g_aload_n F 0 rfl rfl dX6_value_45 ?_
        refine g_get F hV iX6 0 rfl rfl 1 (by decide) (List.mem_of_getElem? (i := 3) rfl) rfl dX6_value_46 ?_
        refine g_get F hV iX0 11 rfl rfl 2 (by decide) (List.mem_of_getElem? (i := 7) rfl) rfl dX6_value_49 ?_
        refine g_iload_n F 2 rfl rfl dX6_value_52 ?_
        refine g_callRS F hV (As := [jv (b_va cn), jv (b_bel), iv (v)]) (rest := []) (kX6_inLowestTerms l D cA (b_va cn) b_bel v (by have := hbv cn; omega) (by omega) (by omega)) (va_cwS 3 F.2.2.2.2.1 gX6_value_X6_inLowestTerms rfl rfl rfl (by decide +kernel) ⟨Nat.le_of_ble_eq_true rfl, Nat.le_of_ble_eq_true rfl⟩) [] rfl rfl rfl (Nat.le_of_ble_eq_true rfl) ⟨Nat.le_of_ble_eq_true rfl, Nat.le_of_ble_eq_true rfl⟩ dX6_value_53 (fun v hv => ?_)
        subst hv
        refine g_eq (st' := [jv (lowZ (b_va cn) b_bel v)]) rfl rfl rfl ?_
        exact g_lretR F rfl (congrArg (fun z => some (jv z)) (show (lowZ (b_va cn) b_bel v : Int) = if (0 ≤ ((cn : Nat) : Int) ∧ ((cn : Nat) : Int) < (a_nc : Int)) ∧ (v = 0 ∨ v = 1) then (if b_out = 0 then lowZ (b_va ((cn : Nat) : Int).toNat) b_bel v else -2000000002) else -2000000001 by (try simp only [Int.toNat_natCast]); first | (rw [if_neg (by omega)]; done) | (rw [if_pos (by omega), if_pos (by omega)]; done) | (rw [if_pos (by omega), if_neg (by omega)]; done))) dX6_value_56
      · skip
        refine g_ldc2 F (-2000000002) (by decide) (List.mem_of_getElem? (i := 5) rfl) dX6_value_32 ?_
        exact g_lretR F rfl (congrArg (fun z => some (jv z)) (show (-2000000002 : Int) = if (0 ≤ ((cn : Nat) : Int) ∧ ((cn : Nat) : Int) < (a_nc : Int)) ∧ (v = 0 ∨ v = 1) then (if b_out = 0 then lowZ (b_va ((cn : Nat) : Int).toNat) b_bel v else -2000000002) else -2000000001 by (try simp only [Int.toNat_natCast]); first | (rw [if_neg (by omega)]; done) | (rw [if_pos (by omega), if_pos (by omega)]; done) | (rw [if_pos (by omega), if_neg (by omega)]; done))) dX6_value_35
    · skip
      refine g_ldc2 F (-2000000001) (by decide) (List.mem_of_getElem? (i := 2) rfl) dX6_value_18 ?_
      exact g_lretR F rfl (congrArg (fun z => some (jv z)) (show (-2000000001 : Int) = if (0 ≤ ((cn : Nat) : Int) ∧ ((cn : Nat) : Int) < (a_nc : Int)) ∧ (v = 0 ∨ v = 1) then (if b_out = 0 then lowZ (b_va ((cn : Nat) : Int).toNat) b_bel v else -2000000002) else -2000000001 by (try simp only [Int.toNat_natCast]); first | (rw [if_neg (by omega)]; done) | (rw [if_pos (by omega), if_pos (by omega)]; done) | (rw [if_pos (by omega), if_neg (by omega)]; done))) dX6_value_21
