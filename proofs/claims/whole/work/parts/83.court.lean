set_option maxHeartbeats 4000000 in
set_option maxRecDepth 100000 in
theorem kX6_sum (l : Launch) (D : va_G) (cA : Nat → ClassId) (x : Nat → Nat) (x_ba : Nat) (x_sa : Nat) (x_qa : Nat) (x_so : Int) (h : Nat → Nat) (h_pl : Nat → Int) (h_pr : Nat → Int) (h_pb : Int) (h_qb : Int) (a : Nat → Nat) (a_kd : Nat → Int) (a_lo : Nat → Int) (a_hi : Nat → Int) (a_co : Nat → Int) (a_pa : Nat → Int) (a_rk : Nat → Int) (a_nu : Nat → Int) (a_ct : Nat → Int) (a_sa : Nat → Int) (a_nc : Nat) (a_nr : Nat) (c : Int) (v : Int) (hc : -2147483648 ≤ c ∧ c ≤ 2147483647) (hv : -2147483648 ≤ v ∧ v ≤ 2147483647) (qnc : a_nc ≤ 5) (qnr : a_nr ≤ 7) (qkd : ∀ j, 0 ≤ a_kd j ∧ a_kd j ≤ 2) (qsa : ∀ j, -9 ≤ a_sa j ∧ a_sa j ≤ 9) (hpl : ∀ j, -200000000000 ≤ h_pl j ∧ h_pl j ≤ 200000000000) (hpb : 0 < h_pb ∧ h_pb ≤ 8000000) : CR l yX6_sum wsX6_sum ({ frames := 3, cells := 0, slots := 0, locals := 80 }) D cA [.ref (x 0), iv (c), iv (v)] (wC cA x (a 0) (x_ba) (x_sa) (x_qa) (h 0) (x_so) ++ wH cA h (h_pl) (h_pr) (h_pb) (h_qb) ++ wP cA a (a_kd) (a_lo) (a_hi) (a_co) (a_pa) (a_rk) (a_nu) (a_ct) (a_sa) (((a_nc : Nat) : Int)) (((a_nr : Nat) : Int))) (fun ov => ov = some (jv (if (0 ≤ c ∧ c < (a_nr : Int)) ∧ (v = 0 ∨ v = 1) then lowZ (sumZ (fun j => a_sa (c.toNat * 5 + j) * h_pl j) a_nc) h_pb v else -2000000001))) := by
  refine CR.mk (cc := cX6_sum) (maxL := 3) (ret := (some .long)) (by decide +kernel) rfl (Nat.le_of_ble_eq_true rfl) ?_
  intro p_ e_ s_ m_ b_ me_ c_ F
  have hV := @IR_P D s_
  have iX6 : ∀ w ∈ u_ws RX6 TX6 6, w ∈ wsX6_sum := by decide +kernel
  have iX1 : ∀ w ∈ u_ws RX1 TX1 4, w ∈ wsX6_sum := by decide +kernel
  refine g_lsub ([(0, .ref (x 0)), (1, iv (c)), (2, iv (v))]) [0, 1, 2] rfl ?_
  refine g_aload_n F 0 rfl rfl dX6_sum_0 ?_
  refine g_get F hV iX6 0 rfl rfl 0 (by decide) (List.mem_of_getElem? (i := 1) rfl) rfl dX6_sum_1 ?_
  refine g_iload_n F 1 rfl rfl dX6_sum_4 ?_
  refine g_callRV F hV (As := [iv (c)]) (rest := []) (kX2_hasRow l D cA a a_kd a_lo a_hi a_co a_pa a_rk a_nu a_ct a_sa a_nc a_nr c (by omega) (qnr)) (cwV 1 F.2.2.2.2.1 gX6_sum_X2_hasRow rfl rfl rfl (by decide +kernel) ⟨Nat.le_of_ble_eq_true rfl, Nat.le_of_ble_eq_true rfl⟩) rfl rfl (q0 := 0) rfl [4, 5, 6, 7, 8, 9, 10, 11, 12, 13] rfl rfl rfl (Nat.le_of_ble_eq_true rfl) ⟨Nat.le_of_ble_eq_true rfl, Nat.le_of_ble_eq_true rfl⟩ dX6_sum_5 (fun v hv => ?_)
  subst hv
  refine g_eq (st' := [iv (if 0 ≤ c ∧ c < a_nr then 1 else 0)]) rfl rfl rfl ?_
  refine g_ifb_eq F (tgt := 18) dX6_sum_8 (by decide) (fun c_1 => ?_) (fun c_1 => ?_)
  · skip
    refine g_ldc2 F (-2000000001) (by decide) (List.mem_of_getElem? (i := 2) rfl) dX6_sum_18 ?_
    exact g_lretR F rfl (congrArg (fun z => some (jv z)) (show (-2000000001 : Int) = if (0 ≤ c ∧ c < (a_nr : Int)) ∧ (v = 0 ∨ v = 1) then lowZ (sumZ (fun j => a_sa (c.toNat * 5 + j) * h_pl j) a_nc) h_pb v else -2000000001 by (try simp only [Int.toNat_natCast]); first | (rw [if_neg (by omega)]; done) | (rw [if_pos (by omega)]; done))) dX6_sum_21
  · skip
    obtain ⟨cn, hcn⟩ : ∃ y : Nat, c = (y : Int) := ⟨c.toNat, by omega⟩
    subst hcn
    refine g_iload_n F 2 rfl rfl dX6_sum_11 ?_
    refine g_callRS F hV (As := [iv (v)]) (rest := []) (kX6_isBit l D cA v (by omega)) (va_cwS 1 F.2.2.2.2.1 gX6_sum_X6_isBit rfl rfl rfl (by decide +kernel) ⟨Nat.le_of_ble_eq_true rfl, Nat.le_of_ble_eq_true rfl⟩) [] rfl rfl rfl (Nat.le_of_ble_eq_true rfl) ⟨Nat.le_of_ble_eq_true rfl, Nat.le_of_ble_eq_true rfl⟩ dX6_sum_12 (fun v hv => ?_)
    subst hv
    refine g_eq (st' := [iv (if v = 0 ∨ v = 1 then 1 else 0)]) rfl rfl rfl ?_
    refine g_ifb_ne F (tgt := 22) dX6_sum_15 (by decide) (fun c_2 => ?_) (fun c_2 => ?_)
    · skip
      refine g_aload_n F 0 rfl rfl dX6_sum_22 ?_
      refine g_get F hV iX6 0 rfl rfl 0 (by decide) (List.mem_of_getElem? (i := 1) rfl) rfl dX6_sum_23 ?_
      refine g_iload_n F 1 rfl rfl dX6_sum_26 ?_
      refine g_aload_n F 0 rfl rfl dX6_sum_27 ?_
      refine g_get F hV iX6 0 rfl rfl 4 (by decide) (List.mem_of_getElem? (i := 3) rfl) rfl dX6_sum_28 ?_
      refine g_get F hV iX1 1 rfl rfl 0 (by decide) (List.mem_of_getElem? (i := 4) rfl) rfl dX6_sum_31 ?_
      refine g_callRV F hV (As := [iv (((cn : Nat) : Int)), .ref (h 1)]) (rest := []) (kX2_sumIn l D cA a a_kd a_lo a_hi a_co a_pa a_rk a_nu a_ct a_sa a_nc a_nr (fun _ => h 1) h_pl cn (by omega) (qnc) (qsa)) (cwV 2 F.2.2.2.2.1 gX6_sum_X2_sumIn rfl rfl rfl (by decide +kernel) ⟨Nat.le_of_ble_eq_true rfl, Nat.le_of_ble_eq_true rfl⟩) rfl rfl (q0 := 0) rfl [4, 5, 6, 7, 8, 9, 10, 11, 12, 13, 2] rfl rfl rfl (Nat.le_of_ble_eq_true rfl) ⟨Nat.le_of_ble_eq_true rfl, Nat.le_of_ble_eq_true rfl⟩ dX6_sum_34 (fun v hv => ?_)
      subst hv
      refine g_eq (st' := [jv (sumZ (fun j => a_sa (cn * 5 + j) * h_pl j) a_nc)]) rfl rfl rfl ?_
      refine g_aload_n F 0 rfl rfl dX6_sum_37 ?_
      refine g_get F hV iX6 0 rfl rfl 4 (by decide) (List.mem_of_getElem? (i := 3) rfl) rfl dX6_sum_38 ?_
      refine g_get F hV iX1 1 rfl rfl 2 (by decide) (List.mem_of_getElem? (i := 5) rfl) rfl dX6_sum_41 ?_
      refine g_iload_n F 2 rfl rfl dX6_sum_44 ?_
      refine g_callRS F hV (As := [jv (sumZ (fun j => a_sa (cn * 5 + j) * h_pl j) a_nc), jv (h_pb), iv (v)]) (rest := []) (kX6_inLowestTerms l D cA (sumZ (fun j => a_sa (cn * 5 + j) * h_pl j) a_nc) h_pb v (by have := sum_big (f := fun j => a_sa (cn * 5 + j) * h_pl j) a_nc (fun j _ => nine_mul (qsa _) (hpl j)); omega) (by omega) (by omega)) (va_cwS 3 F.2.2.2.2.1 gX6_sum_X6_inLowestTerms rfl rfl rfl (by decide +kernel) ⟨Nat.le_of_ble_eq_true rfl, Nat.le_of_ble_eq_true rfl⟩) [] rfl rfl rfl (Nat.le_of_ble_eq_true rfl) ⟨Nat.le_of_ble_eq_true rfl, Nat.le_of_ble_eq_true rfl⟩ dX6_sum_45 (fun v hv => ?_)
      subst hv
      refine g_eq (st' := [jv (lowZ (sumZ (fun j => a_sa (cn * 5 + j) * h_pl j) a_nc) h_pb v)]) rfl rfl rfl ?_
      exact g_lretR F rfl (congrArg (fun z => some (jv z)) (show (lowZ (sumZ (fun j => a_sa (cn * 5 + j) * h_pl j) a_nc) h_pb v : Int) = if (0 ≤ ((cn : Nat) : Int) ∧ ((cn : Nat) : Int) < (a_nr : Int)) ∧ (v = 0 ∨ v = 1) then lowZ (sumZ (fun j => a_sa (((cn : Nat) : Int).toNat * 5 + j) * h_pl j) a_nc) h_pb v else -2000000001 by (try simp only [Int.toNat_natCast]); first | (rw [if_neg (by omega)]; done) | (rw [if_pos (by omega)]; done))) dX6_sum_48
    · skip
      refine g_ldc2 F (-2000000001) (by decide) (List.mem_of_getElem? (i := 2) rfl) dX6_sum_18 ?_
      exact g_lretR F rfl (congrArg (fun z => some (jv z)) (show (-2000000001 : Int) = if (0 ≤ ((cn : Nat) : Int) ∧ ((cn : Nat) : Int) < (a_nr : Int)) ∧ (v = 0 ∨ v = 1) then lowZ (sumZ (fun j => a_sa (((cn : Nat) : Int).toNat * 5 + j) * h_pl j) a_nc) h_pb v else -2000000001 by (try simp only [Int.toNat_natCast]); first | (rw [if_neg (by omega)]; done) | (rw [if_pos (by omega)]; done))) dX6_sum_21
