set_option maxHeartbeats 4000000 in
set_option maxRecDepth 100000 in
theorem kX6_least (l : Launch) (D : va_G) (cA : Nat → ClassId) (x : Nat → Nat) (x_pa : Nat) (x_sa : Nat) (x_qa : Nat) (x_ha : Nat) (x_so : Int) (b : Nat → Nat) (b_va : Nat → Int) (b_cost : Int) (b_bel : Int) (b_out : Int) (v : Int) (hv : -2147483648 ≤ v ∧ v ≤ 2147483647) (hbb : 0 < b_bel ∧ b_bel ≤ 8000000) (hbv : ∀ j, -200000000000 ≤ b_va j ∧ b_va j ≤ 200000000000) (hbc : -200000000000 ≤ b_cost ∧ b_cost ≤ 200000000000) (hbo : 0 ≤ b_out ∧ b_out ≤ 3) : CR l yX6_least wsX6_least ({ frames := 3, cells := 0, slots := 0, locals := 80 }) D cA [.ref (x 0), iv (v)] (wC cA x (x_pa) (b 0) (x_sa) (x_qa) (x_ha) (x_so) ++ wB cA b (b_va) (b_cost) (b_bel) (b_out)) (fun ov => ov = some (jv (if v = 0 ∨ v = 1 then (if b_out = 0 then lowZ b_cost b_bel v else -2000000002) else -2000000001))) := by
  refine CR.mk (cc := cX6_least) (maxL := 2) (ret := (some .long)) (by decide +kernel) rfl (Nat.le_of_ble_eq_true rfl) ?_
  intro p_ e_ s_ m_ b_ me_ c_ F
  have hV := @IR_P D s_
  have iX0 : ∀ w ∈ u_ws RX0 TX0 4, w ∈ wsX6_least := by decide +kernel
  have iX6 : ∀ w ∈ u_ws RX6 TX6 6, w ∈ wsX6_least := by decide +kernel
  refine g_lsub ([(0, .ref (x 0)), (1, iv (v))]) [0, 1] rfl ?_
  refine g_iload_n F 1 rfl rfl dX6_least_0 ?_
  refine g_callRS F hV (As := [iv (v)]) (rest := []) (kX6_isBit l D cA v (by omega)) (va_cwS 1 F.2.2.2.2.1 gX6_least_X6_isBit rfl rfl rfl (by decide +kernel) ⟨Nat.le_of_ble_eq_true rfl, Nat.le_of_ble_eq_true rfl⟩) [] rfl rfl rfl (Nat.le_of_ble_eq_true rfl) ⟨Nat.le_of_ble_eq_true rfl, Nat.le_of_ble_eq_true rfl⟩ dX6_least_1 (fun v hv => ?_)
  subst hv
  refine g_eq (st' := [iv (if v = 0 ∨ v = 1 then 1 else 0)]) rfl rfl rfl ?_
  refine g_ifb_ne F (tgt := 11) dX6_least_4 (by decide) (fun c_1 => ?_) (fun c_1 => ?_)
  · skip
    refine g_aload_n F 0 rfl rfl dX6_least_11 ?_
    refine g_get F hV iX6 0 rfl rfl 1 (by decide) (List.mem_of_getElem? (i := 2) rfl) rfl dX6_least_12 ?_
    refine g_get F hV iX0 1 rfl rfl 3 (by decide) (List.mem_of_getElem? (i := 3) rfl) rfl dX6_least_15 ?_
    refine g_if_eq F (tgt := 25) dX6_least_18 (by decide) ⟨by omega, by omega⟩ (fun c_2 => ?_) (fun c_2 => ?_)
    · skip
      refine g_aload_n F 0 rfl rfl dX6_least_25 ?_
      refine g_get F hV iX6 0 rfl rfl 1 (by decide) (List.mem_of_getElem? (i := 2) rfl) rfl dX6_least_26 ?_
      refine g_get F hV iX0 1 rfl rfl 1 (by decide) (List.mem_of_getElem? (i := 5) rfl) rfl dX6_least_29 ?_
      refine g_aload_n F 0 rfl rfl dX6_least_32 ?_
      refine g_get F hV iX6 0 rfl rfl 1 (by decide) (List.mem_of_getElem? (i := 2) rfl) rfl dX6_least_33 ?_
      refine g_get F hV iX0 1 rfl rfl 2 (by decide) (List.mem_of_getElem? (i := 6) rfl) rfl dX6_least_36 ?_
      refine g_iload_n F 1 rfl rfl dX6_least_39 ?_
      refine g_callRS F hV (As := [jv (b_cost), jv (b_bel), iv (v)]) (rest := []) (kX6_inLowestTerms l D cA b_cost b_bel v (by omega) (by omega) (by omega)) (va_cwS 3 F.2.2.2.2.1 gX6_least_X6_inLowestTerms rfl rfl rfl (by decide +kernel) ⟨Nat.le_of_ble_eq_true rfl, Nat.le_of_ble_eq_true rfl⟩) [] rfl rfl rfl (Nat.le_of_ble_eq_true rfl) ⟨Nat.le_of_ble_eq_true rfl, Nat.le_of_ble_eq_true rfl⟩ dX6_least_40 (fun v hv => ?_)
      subst hv
      refine g_eq (st' := [jv (lowZ b_cost b_bel v)]) rfl rfl rfl ?_
      exact g_lretR F rfl (congrArg (fun z => some (jv z)) (show (lowZ b_cost b_bel v : Int) = if v = 0 ∨ v = 1 then (if b_out = 0 then lowZ b_cost b_bel v else -2000000002) else -2000000001 by (try simp only [Int.toNat_natCast]); first | (rw [if_neg (by omega)]; done) | (rw [if_pos (by omega), if_pos (by omega)]; done) | (rw [if_pos (by omega), if_neg (by omega)]; done))) dX6_least_43
    · skip
      refine g_ldc2 F (-2000000002) (by decide) (List.mem_of_getElem? (i := 4) rfl) dX6_least_21 ?_
      exact g_lretR F rfl (congrArg (fun z => some (jv z)) (show (-2000000002 : Int) = if v = 0 ∨ v = 1 then (if b_out = 0 then lowZ b_cost b_bel v else -2000000002) else -2000000001 by (try simp only [Int.toNat_natCast]); first | (rw [if_neg (by omega)]; done) | (rw [if_pos (by omega), if_pos (by omega)]; done) | (rw [if_pos (by omega), if_neg (by omega)]; done))) dX6_least_24
  · skip
    refine g_ldc2 F (-2000000001) (by decide) (List.mem_of_getElem? (i := 1) rfl) dX6_least_7 ?_
    exact g_lretR F rfl (congrArg (fun z => some (jv z)) (show (-2000000001 : Int) = if v = 0 ∨ v = 1 then (if b_out = 0 then lowZ b_cost b_bel v else -2000000002) else -2000000001 by (try simp only [Int.toNat_natCast]); first | (rw [if_neg (by omega)]; done) | (rw [if_pos (by omega), if_pos (by omega)]; done) | (rw [if_pos (by omega), if_neg (by omega)]; done))) dX6_least_10
