set_option maxHeartbeats 4000000 in
set_option maxRecDepth 100000 in
theorem kX6_row (l : Launch) (D : va_G) (cA : Nat → ClassId) (x : Nat → Nat) (x_ba : Nat) (x_sa : Nat) (x_qa : Nat) (x_ha : Nat) (x_so : Int) (a : Nat → Nat) (a_kd : Nat → Int) (a_lo : Nat → Int) (a_hi : Nat → Int) (a_co : Nat → Int) (a_pa : Nat → Int) (a_rk : Nat → Int) (a_nu : Nat → Int) (a_ct : Nat → Int) (a_sa : Nat → Int) (a_nc : Nat) (a_nr : Nat) (k : Int) (v : Int) (hk : -2147483648 ≤ k ∧ k ≤ 2147483647) (hv : -2147483648 ≤ v ∧ v ≤ 2147483647) (qnc : a_nc ≤ 5) (qnr : a_nr ≤ 7) (qkd : ∀ j, 0 ≤ a_kd j ∧ a_kd j ≤ 2) : CT l yX6_row wsX6_row ({ frames := 1, cells := 0, slots := 0, locals := 23 }) D cA [.ref (x 0), iv (k), iv (v)] (wC cA x (a 0) (x_ba) (x_sa) (x_qa) (x_ha) (x_so) ++ wP cA a (a_kd) (a_lo) (a_hi) (a_co) (a_pa) (a_rk) (a_nu) (a_ct) (a_sa) (((a_nc : Nat) : Int)) (((a_nr : Nat) : Int))) (fun ov ow => ov = some (iv (if (0 ≤ k ∧ k ≤ 2) ∧ -99 ≤ v ∧ v ≤ 99 then (if 7 ≤ a_nr then -2000000003 else (a_nr : Int)) else -2000000001)) ∧ ow = wC cA x (a 0) x_ba x_sa x_qa x_ha x_so ++ (if ((0 ≤ k ∧ k ≤ 2) ∧ -99 ≤ v ∧ v ≤ 99) ∧ a_nr < 7 then wP cA a a_kd a_lo a_hi a_co a_pa (va_up a_rk a_nr k) (va_up a_nu a_nr v) (va_up a_ct a_nr 1) a_sa (a_nc : Int) ((a_nr + 1 : Nat) : Int) else wP cA a a_kd a_lo a_hi a_co a_pa a_rk a_nu a_ct a_sa (a_nc : Int) (a_nr : Int))) 0 0 := by
  refine CT.mk (cc := cX6_row) (maxL := 3) (ret := (some .int)) (by decide +kernel) rfl (Nat.le_of_ble_eq_true rfl) ?_
  intro p_ e_ s_ m_ b_ me_ c_ A F hnm hA
  have hV := @IM_P D s_ A
  have iX6 : ∀ w ∈ u_ws RX6 TX6 6, w ∈ wsX6_row := by decide +kernel
  refine g_lsub ([(0, .ref (x 0)), (1, iv (k)), (2, iv (v))]) [0, 1, 2] rfl ?_
  refine g_iload_n F 1 rfl rfl dX6_row_0 ?_
  refine g_if_lt F (tgt := 18) dX6_row_1 (by decide) ⟨by omega, by omega⟩ (fun c_1 => ?_) (fun c_1 => ?_)
  · skip
    refine g_ldc F (-2000000001) (by decide) (List.mem_of_getElem? (i := 1) rfl) dX6_row_18 ?_
    exact g_zret F rfl rfl (by decide) (by decide) ⟨congrArg (fun z => some (iv z)) (show (-2000000001 : Int) = if (0 ≤ k ∧ k ≤ 2) ∧ -99 ≤ v ∧ v ≤ 99 then (if 7 ≤ a_nr then -2000000003 else (a_nr : Int)) else -2000000001 by first | (rw [if_neg (by omega)]; done) | (rw [if_pos (by omega), if_pos (by omega)]; done) | (rw [if_pos (by omega), if_neg (by omega)]; done)), (by first | (rw [if_neg (by omega)]; done) | (rw [if_pos (by omega)]; done))⟩ dX6_row_20
  · skip
    refine g_iload_n F 1 rfl rfl dX6_row_4 ?_
    refine g_iconst F dX6_row_5 ?_
    refine g_icmp_gt F (tgt := 18) dX6_row_6 (by decide) ⟨by omega, by omega⟩ ⟨by decide, by decide⟩ (fun c_2 => ?_) (fun c_2 => ?_)
    · skip
      refine g_ldc F (-2000000001) (by decide) (List.mem_of_getElem? (i := 1) rfl) dX6_row_18 ?_
      exact g_zret F rfl rfl (by decide) (by decide) ⟨congrArg (fun z => some (iv z)) (show (-2000000001 : Int) = if (0 ≤ k ∧ k ≤ 2) ∧ -99 ≤ v ∧ v ≤ 99 then (if 7 ≤ a_nr then -2000000003 else (a_nr : Int)) else -2000000001 by first | (rw [if_neg (by omega)]; done) | (rw [if_pos (by omega), if_pos (by omega)]; done) | (rw [if_pos (by omega), if_neg (by omega)]; done)), (by first | (rw [if_neg (by omega)]; done) | (rw [if_pos (by omega)]; done))⟩ dX6_row_20
    · skip
      refine g_iload_n F 2 rfl rfl dX6_row_9 ?_
      refine g_bipush F dX6_row_10 (by decide) ?_
      refine g_callRS F hV (As := [iv (v), iv (99)]) (rest := []) (kX6_isWithin l D cA v 99 (by omega) (by omega)) (va_cwS 2 F.2.2.2.2.1 gX6_row_X6_isWithin rfl rfl rfl (by decide +kernel) ⟨Nat.le_of_ble_eq_true rfl, Nat.le_of_ble_eq_true rfl⟩) [] rfl rfl rfl (Nat.le_of_ble_eq_true rfl) ⟨Nat.le_of_ble_eq_true rfl, Nat.le_of_ble_eq_true rfl⟩ dX6_row_12 (fun v hv => ?_)
      subst hv
      refine g_eq (st' := [iv (if -99 ≤ v ∧ v ≤ 99 then 1 else 0)]) rfl rfl rfl ?_
      refine g_ifb_ne F (tgt := 21) dX6_row_15 (by decide) (fun c_3 => ?_) (fun c_3 => ?_)
      · skip
        refine g_aload_n F 0 rfl rfl dX6_row_21 ?_
        refine g_get F hV iX6 0 rfl rfl 0 (by decide) (List.mem_of_getElem? (i := 2) rfl) rfl dX6_row_22 ?_
        refine g_iload_n F 1 rfl rfl dX6_row_25 ?_
        refine g_iload_n F 2 rfl rfl dX6_row_26 ?_
        refine g_callV F (As := [iv (k), iv (v)]) (rest := []) (wr := wC cA x (a 0) (x_ba) (x_sa) (x_qa) (x_ha) (x_so)) (kX2_addRow l D cA a a_kd a_lo a_hi a_co a_pa a_rk a_nu a_ct a_sa a_nc a_nr k v (qnr)) (cwV 2 F.2.2.2.2.1 gX6_row_X2_addRow rfl rfl rfl (by decide +kernel) ⟨Nat.le_of_ble_eq_true rfl, Nat.le_of_ble_eq_true rfl⟩) rfl rfl (q0 := 0) rfl [1, 2, 3, 4, 5, 6, 7, 8, 9, 10] [0] rfl rfl (by decide) (by decide) (by decide) rfl rfl (Nat.le_of_ble_eq_true rfl) ⟨Nat.le_of_ble_eq_true rfl, Nat.le_of_ble_eq_true rfl⟩ hA dX6_row_27 (fun v w hv => ?_)
        obtain ⟨hv, hw⟩ := hv
        subst hv
        subst hw
        by_cases c_4 : a_nr < 7
        · simp only [if_pos c_4]
          refine g_wsub (wC cA x (a 0) (x_ba) (x_sa) (x_qa) (x_ha) (x_so) ++ wP cA a (a_kd) (a_lo) (a_hi) (a_co) (a_pa) (va_up a_rk a_nr k) (va_up a_nu a_nr v) (va_up a_ct a_nr 1) (a_sa) (((a_nc : Nat) : Int)) (((a_nr + 1 : Nat) : Int))) [0, 1, 2, 3, 4, 5, 6, 7, 8, 9, 10] (by decide) rfl ?_
          refine g_eq (st' := [iv ((a_nr : Int))]) rfl rfl rfl ?_
          exact g_zret F rfl rfl (by decide) (by decide) ⟨congrArg (fun z => some (iv z)) (show ((a_nr : Int) : Int) = if (0 ≤ k ∧ k ≤ 2) ∧ -99 ≤ v ∧ v ≤ 99 then (if 7 ≤ a_nr then -2000000003 else (a_nr : Int)) else -2000000001 by first | (rw [if_neg (by omega)]; done) | (rw [if_pos (by omega), if_pos (by omega)]; done) | (rw [if_pos (by omega), if_neg (by omega)]; done)), (by first | (rw [if_neg (by omega)]; done) | (rw [if_pos (by omega)]; done))⟩ dX6_row_30
        · simp only [if_neg c_4]
          refine g_wsub (wC cA x (a 0) (x_ba) (x_sa) (x_qa) (x_ha) (x_so) ++ wP cA a (a_kd) (a_lo) (a_hi) (a_co) (a_pa) (a_rk) (a_nu) (a_ct) (a_sa) (((a_nc : Nat) : Int)) (((a_nr : Nat) : Int))) [0, 1, 2, 3, 4, 5, 6, 7, 8, 9, 10] (by decide) rfl ?_
          refine g_eq (st' := [iv (-2000000003)]) rfl rfl rfl ?_
          exact g_zret F rfl rfl (by decide) (by decide) ⟨congrArg (fun z => some (iv z)) (show (-2000000003 : Int) = if (0 ≤ k ∧ k ≤ 2) ∧ -99 ≤ v ∧ v ≤ 99 then (if 7 ≤ a_nr then -2000000003 else (a_nr : Int)) else -2000000001 by first | (rw [if_neg (by omega)]; done) | (rw [if_pos (by omega), if_pos (by omega)]; done) | (rw [if_pos (by omega), if_neg (by omega)]; done)), (by first | (rw [if_neg (by omega)]; done) | (rw [if_pos (by omega)]; done))⟩ dX6_row_30
      · skip
        refine g_ldc F (-2000000001) (by decide) (List.mem_of_getElem? (i := 1) rfl) dX6_row_18 ?_
        exact g_zret F rfl rfl (by decide) (by decide) ⟨congrArg (fun z => some (iv z)) (show (-2000000001 : Int) = if (0 ≤ k ∧ k ≤ 2) ∧ -99 ≤ v ∧ v ≤ 99 then (if 7 ≤ a_nr then -2000000003 else (a_nr : Int)) else -2000000001 by first | (rw [if_neg (by omega)]; done) | (rw [if_pos (by omega), if_pos (by omega)]; done) | (rw [if_pos (by omega), if_neg (by omega)]; done)), (by first | (rw [if_neg (by omega)]; done) | (rw [if_pos (by omega)]; done))⟩ dX6_row_20
