set_option maxHeartbeats 4000000 in
set_option maxRecDepth 100000 in
theorem kX6_take (l : Launch) (D : va_G) (cA : Nat → ClassId) (x : Nat → Nat) (x_pa : Nat) (x_sa : Nat) (x_qa : Nat) (x_so : Int) (h : Nat → Nat) (h_pl : Nat → Int) (h_pr : Nat → Int) (h_pb : Int) (h_qb : Int) (b : Nat → Nat) (b_va : Nat → Int) (b_cost : Int) (b_bel : Int) (b_out : Int) (hbb : 0 < b_bel ∧ b_bel ≤ 8000000) (hbv : ∀ j, -200000000000 ≤ b_va j ∧ b_va j ≤ 200000000000) (hbc : -200000000000 ≤ b_cost ∧ b_cost ≤ 200000000000) (hbo : 0 ≤ b_out ∧ b_out ≤ 3) : CT l yX6_take wsX6_take ({ frames := 3, cells := 0, slots := 0, locals := 78 }) D cA [.ref (x 0)] (wC cA x (x_pa) (b 0) (x_sa) (x_qa) (h 0) (x_so) ++ wH cA h (h_pl) (h_pr) (h_pb) (h_qb) ++ wB cA b (b_va) (b_cost) (b_bel) (b_out)) (fun ov ow => ov = some (jv (if b_out = 0 then Int.tdiv b_bel (gbZ b_va b_bel 5 : Nat) else -2000000002)) ∧ ow = wC cA x x_pa (b 0) x_sa x_qa (h 0) x_so ++ (if b_out = 0 then wH cA h (grV b_va b_bel) h_pr (Int.tdiv b_bel (gbZ b_va b_bel 5 : Nat)) h_qb else wH cA h h_pl h_pr h_pb h_qb) ++ wB cA b b_va b_cost b_bel b_out) 0 0 := by
  refine CT.mk (cc := cX6_take) (maxL := 1) (ret := (some .long)) (by decide +kernel) rfl (Nat.le_of_ble_eq_true rfl) ?_
  intro p_ e_ s_ m_ b_ me_ c_ A F hnm hA
  have hV := @IM_P D s_ A
  have iX0 : ∀ w ∈ u_ws RX0 TX0 4, w ∈ wsX6_take := by decide +kernel
  have iX6 : ∀ w ∈ u_ws RX6 TX6 6, w ∈ wsX6_take := by decide +kernel
  have iX1 : ∀ w ∈ u_ws RX1 TX1 4, w ∈ wsX6_take := by decide +kernel
  refine g_lsub ([(0, .ref (x 0))]) [0] rfl ?_
  refine g_aload_n F 0 rfl rfl dX6_take_0 ?_
  refine g_get F hV iX6 0 rfl rfl 1 (by decide) (List.mem_of_getElem? (i := 1) rfl) rfl dX6_take_1 ?_
  refine g_get F hV iX0 4 rfl rfl 3 (by decide) (List.mem_of_getElem? (i := 2) rfl) rfl dX6_take_4 ?_
  refine g_if_eq F (tgt := 14) dX6_take_7 (by decide) ⟨by omega, by omega⟩ (fun c_1 => ?_) (fun c_1 => ?_)
  · skip
    refine g_aload_n F 0 rfl rfl dX6_take_14 ?_
    refine g_get F hV iX6 0 rfl rfl 4 (by decide) (List.mem_of_getElem? (i := 4) rfl) rfl dX6_take_15 ?_
    refine g_aload_n F 0 rfl rfl dX6_take_18 ?_
    refine g_get F hV iX6 0 rfl rfl 1 (by decide) (List.mem_of_getElem? (i := 1) rfl) rfl dX6_take_19 ?_
    refine g_callV F (As := [.ref (b 0)]) (rest := []) (wr := wC cA x (x_pa) (b 0) (x_sa) (x_qa) (h 0) (x_so)) (kX1_grasp l D cA h h_pl h_pr h_pb h_qb b b_va b_cost b_bel b_out (hbb) (hbv)) (cwV 1 F.2.2.2.2.1 gX6_take_X1_grasp rfl rfl rfl (by decide +kernel) ⟨Nat.le_of_ble_eq_true rfl, Nat.le_of_ble_eq_true rfl⟩) rfl rfl (q0 := 0) rfl [1, 2, 3, 4, 5] [0] rfl rfl (by decide) (by decide) (by decide) rfl rfl (Nat.le_of_ble_eq_true rfl) ⟨Nat.le_of_ble_eq_true rfl, Nat.le_of_ble_eq_true rfl⟩ hA dX6_take_22 (fun v w hv => ?_)
    obtain ⟨hv, hw⟩ := hv
    subst hv
    subst hw
    refine g_wsub (wC cA x (x_pa) (b 0) (x_sa) (x_qa) (h 0) (x_so) ++ wH cA h (grV b_va b_bel) (h_pr) (Int.tdiv b_bel (gbZ b_va b_bel 5 : Nat)) (h_qb) ++ wB cA b (b_va) (b_cost) (b_bel) (b_out)) [0, 1, 2, 3, 4, 5] (by decide) rfl ?_
    refine g_eq (st' := []) rfl rfl rfl ?_
    refine g_aload_n F 0 rfl rfl dX6_take_25 ?_
    refine g_get F hV iX6 0 rfl rfl 4 (by decide) (List.mem_of_getElem? (i := 4) rfl) rfl dX6_take_26 ?_
    refine g_get F hV iX1 1 rfl rfl 2 (by decide) (List.mem_of_getElem? (i := 5) rfl) rfl dX6_take_29 ?_
    exact g_lret F rfl (by decide) (by decide) ⟨congrArg (fun z => some (jv z)) (show (Int.tdiv b_bel (gbZ b_va b_bel 5 : Nat) : Int) = if b_out = 0 then Int.tdiv b_bel (gbZ b_va b_bel 5 : Nat) else -2000000002 by first | (rw [if_neg (by omega)]; done) | (rw [if_pos (by omega)]; done)), (by first | (rw [if_neg (by omega)]; done) | (rw [if_pos (by omega)]; done))⟩ dX6_take_32
  · skip
    refine g_ldc2 F (-2000000002) (by decide) (List.mem_of_getElem? (i := 3) rfl) dX6_take_10 ?_
    exact g_lret F rfl (by decide) (by decide) ⟨congrArg (fun z => some (jv z)) (show (-2000000002 : Int) = if b_out = 0 then Int.tdiv b_bel (gbZ b_va b_bel 5 : Nat) else -2000000002 by first | (rw [if_neg (by omega)]; done) | (rw [if_pos (by omega)]; done)), (by first | (rw [if_neg (by omega)]; done) | (rw [if_pos (by omega)]; done))⟩ dX6_take_13
