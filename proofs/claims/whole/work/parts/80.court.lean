set_option maxHeartbeats 4000000 in
set_option maxRecDepth 100000 in
theorem kX6_check (l : Launch) (D : va_G) (cA : Nat → ClassId) (x : Nat → Nat) (x_ba : Nat) (x_sa : Nat) (x_qa : Nat) (x_so : Int) (h : Nat → Nat) (h_pl : Nat → Int) (h_pr : Nat → Int) (h_pb : Int) (h_qb : Int) (a : Nat → Nat) (a_kd : Nat → Int) (a_lo : Nat → Int) (a_hi : Nat → Int) (a_co : Nat → Int) (a_pa : Nat → Int) (a_rk : Nat → Int) (a_nu : Nat → Int) (a_ct : Nat → Int) (a_sa : Nat → Int) (a_nc : Nat) (a_nr : Nat) (qnc : a_nc ≤ 5) (qnr : a_nr ≤ 7) (hpl : ∀ j, -200000000000 ≤ h_pl j ∧ h_pl j ≤ 200000000000) (hpb : 0 < h_pb ∧ h_pb ≤ 8000000) (qsa : ∀ j, -9 ≤ a_sa j ∧ a_sa j ≤ 9) (qnu : ∀ j, -198 ≤ a_nu j ∧ a_nu j ≤ 198) (qrk : ∀ j, 0 ≤ a_rk j ∧ a_rk j ≤ 2) (qct : ∀ j, 0 ≤ a_ct j ∧ a_ct j ≤ 1) (qlo : ∀ j, -20 ≤ a_lo j ∧ a_lo j ≤ 20) (qhi : ∀ j, a_hi j = -2000000005 ∨ (-20 ≤ a_hi j ∧ a_hi j ≤ 20)) (qkd : ∀ j, 0 ≤ a_kd j ∧ a_kd j ≤ 2) (qpa : ∀ j, a_pa j = -2000000005 ∨ (0 ≤ a_pa j ∧ a_pa j < 5)) : CR l yX6_check wsX6_check ({ frames := 5, cells := 0, slots := 0, locals := 116 }) D cA [.ref (x 0)] (wC cA x (a 0) (x_ba) (x_sa) (x_qa) (h 0) (x_so) ++ wH cA h (h_pl) (h_pr) (h_pb) (h_qb) ++ wP cA a (a_kd) (a_lo) (a_hi) (a_co) (a_pa) (a_rk) (a_nu) (a_ct) (a_sa) (((a_nc : Nat) : Int)) (((a_nr : Nat) : Int))) (fun ov => ov = some (iv (fwZ (firstZ (unwB a_kd a_lo a_hi a_pa h_pl h_pb a_nc) a_nc) (firstZ (brkB a_rk a_nu a_ct a_sa h_pl h_pb a_nc) a_nr)))) := by
  refine CR.mk (cc := cX6_check) (maxL := 1) (ret := (some .int)) (by decide +kernel) rfl (Nat.le_of_ble_eq_true rfl) ?_
  intro p_ e_ s_ m_ b_ me_ c_ F
  have hV := @IR_P D s_
  have iX6 : ∀ w ∈ u_ws RX6 TX6 6, w ∈ wsX6_check := by decide +kernel
  refine g_lsub ([(0, .ref (x 0))]) [0] rfl ?_
  refine g_aload_n F 0 rfl rfl dX6_check_0 ?_
  refine g_get F hV iX6 0 rfl rfl 4 (by decide) (List.mem_of_getElem? (i := 1) rfl) rfl dX6_check_1 ?_
  refine g_aload_n F 0 rfl rfl dX6_check_4 ?_
  refine g_get F hV iX6 0 rfl rfl 0 (by decide) (List.mem_of_getElem? (i := 2) rfl) rfl dX6_check_5 ?_
  refine g_callRV F hV (As := [.ref (a 0)]) (rest := []) (kX1_firstWrong l D cA h h_pl h_pr h_pb h_qb a a_kd a_lo a_hi a_co a_pa a_rk a_nu a_ct a_sa a_nc a_nr (qnc) (qnr) (hpl) (hpb) (qsa) (qnu) (qrk) (qct) (qlo) (qhi) (qkd) (qpa)) (cwV 1 F.2.2.2.2.1 gX6_check_X1_firstWrong rfl rfl rfl (by decide +kernel) ⟨Nat.le_of_ble_eq_true rfl, Nat.le_of_ble_eq_true rfl⟩) rfl rfl (q0 := 0) rfl [1, 2, 3, 4, 5, 6, 7, 8, 9, 10, 11, 12, 13] rfl rfl rfl (Nat.le_of_ble_eq_true rfl) ⟨Nat.le_of_ble_eq_true rfl, Nat.le_of_ble_eq_true rfl⟩ dX6_check_8 (fun v hv => ?_)
  subst hv
  refine g_eq (st' := [iv (fwZ (firstZ (unwB a_kd a_lo a_hi a_pa h_pl h_pb a_nc) a_nc) (firstZ (brkB a_rk a_nu a_ct a_sa h_pl h_pb a_nc) a_nr))]) rfl rfl rfl ?_
  exact g_zretR F rfl rfl (congrArg (fun z => some (iv z)) (show (fwZ (firstZ (unwB a_kd a_lo a_hi a_pa h_pl h_pb a_nc) a_nc) (firstZ (brkB a_rk a_nu a_ct a_sa h_pl h_pb a_nc) a_nr) : Int) = fwZ (firstZ (unwB a_kd a_lo a_hi a_pa h_pl h_pb a_nc) a_nc) (firstZ (brkB a_rk a_nu a_ct a_sa h_pl h_pb a_nc) a_nr) by rfl)) dX6_check_11
