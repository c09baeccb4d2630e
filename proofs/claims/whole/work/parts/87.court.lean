set_option maxHeartbeats 4000000 in
set_option maxRecDepth 100000 in
theorem kX6_column (l : Launch) (D : va_G) (cA : Nat → ClassId) (x : Nat → Nat) (x_ba : Nat) (x_sa : Nat) (x_qa : Nat) (x_ha : Nat) (x_so : Int) (a : Nat → Nat) (a_kd : Nat → Int) (a_lo : Nat → Int) (a_hi : Nat → Int) (a_co : Nat → Int) (a_pa : Nat → Int) (a_rk : Nat → Int) (a_nu : Nat → Int) (a_ct : Nat → Int) (a_sa : Nat → Int) (a_nc : Nat) (a_nr : Nat) (k : Int) (v : Int) (w : Int) (hk : -2147483648 ≤ k ∧ k ≤ 2147483647) (hv : -2147483648 ≤ v ∧ v ≤ 2147483647) (hw : -2147483648 ≤ w ∧ w ≤ 2147483647) (qnc : a_nc ≤ 5) (qnr : a_nr ≤ 7) (qkd : ∀ j, 0 ≤ a_kd j ∧ a_kd j ≤ 2) : CT l yX6_column wsX6_column ({ frames := 2, cells := 0, slots := 0, locals := 43 }) D cA [.ref (x 0), iv (k), iv (v), iv (w)] (wC cA x (a 0) (x_ba) (x_sa) (x_qa) (x_ha) (x_so) ++ wP cA a (a_kd) (a_lo) (a_hi) (a_co) (a_pa) (a_rk) (a_nu) (a_ct) (a_sa) (((a_nc : Nat) : Int)) (((a_nr : Nat) : Int))) (fun ov ow => ov = some (iv (if (0 ≤ k ∧ k ≤ 2) ∧ fitsP k v w then (if 5 ≤ a_nc then -2000000003 else (a_nc : Int)) else -2000000001)) ∧ ow = wC cA x (a 0) x_ba x_sa x_qa x_ha x_so ++ (if ((0 ≤ k ∧ k ≤ 2) ∧ fitsP k v w) ∧ a_nc < 5 then wP cA a (va_up a_kd a_nc k) (va_up a_lo a_nc (if k = 2 then 0 else v)) (va_up a_hi a_nc (if k = 2 then 1 else w)) a_co (va_up a_pa a_nc (-2000000005)) a_rk a_nu a_ct a_sa ((a_nc + 1 : Nat) : Int) (a_nr : Int) else wP cA a a_kd a_lo a_hi a_co a_pa a_rk a_nu a_ct a_sa (a_nc : Int) (a_nr : Int))) 0 0 := by
  refine CT.mk (cc := cX6_column) (maxL := 4) (ret := (some .int)) (by decide +kernel) rfl (Nat.le_of_ble_eq_true rfl) ?_
  intro p_ e_ s_ m_ b_ me_ c_ A F hnm hA
  have hV := @IM_P D s_ A
  have iX6 : ∀ w ∈ u_ws RX6 TX6 6, w ∈ wsX6_column := by decide +kernel
  refine g_lsub ([(0, .ref (x 0)), (1, iv (k)), (2, iv (v)), (3, iv (w))]) [0, 1, 2, 3] rfl ?_
  refine g_iload_n F 1 rfl rfl dX6_column_0 ?_
  refine g_callRS F hV (As := [iv (k)]) (rest := []) (kX6_isKind l D cA k (by omega)) (va_cwS 1 F.2.2.2.2.1 gX6_column_X6_isKind rfl rfl rfl (by decide +kernel) ⟨Nat.le_of_ble_eq_true rfl, Nat.le_of_ble_eq_true rfl⟩) [] rfl rfl rfl (Nat.le_of_ble_eq_true rfl) ⟨Nat.le_of_ble_eq_true rfl, Nat.le_of_ble_eq_true rfl⟩ dX6_column_1 (fun v hv => ?_)
  subst hv
  refine g_eq (st' := [iv (if 0 ≤ k ∧ k ≤ 2 then 1 else 0)]) rfl rfl rfl ?_
  refine g_ifb_eq F (tgt := 16) dX6_column_4 (by decide) (fun c_1 => ?_) (fun c_1 => ?_)
  · skip
    refine g_ldc F (-2000000001) (by decide) (List.mem_of_getElem? (i := 1) rfl) dX6_column_16 ?_
    exact g_zret F rfl rfl (by decide) (by decide) ⟨congrArg (fun z => some (iv z)) (show (-2000000001 : Int) = if (0 ≤ k ∧ k ≤ 2) ∧ fitsP k v w then (if 5 ≤ a_nc then -2000000003 else (a_nc : Int)) else -2000000001 by first | (rw [if_neg (fun z => absurd z.1 (by omega))]; done) | (rw [if_neg (fun z => absurd z.2 (by assumption))]; done) | (rw [if_pos ⟨by omega, by assumption⟩, if_pos (by omega)]; done) | (rw [if_pos ⟨by omega, by assumption⟩, if_neg (by omega)]; done)), (by first | (rw [if_neg (show ¬ (((0 ≤ k ∧ k ≤ 2) ∧ fitsP k v w) ∧ a_nc < 5) from fun z => absurd z.1.1 (by omega))]; done) | (rw [if_neg (show ¬ (((0 ≤ k ∧ k ≤ 2) ∧ fitsP k v w) ∧ a_nc < 5) from fun z => absurd z.1.2 (by assumption))]; done) | (rw [if_neg (show ¬ (((0 ≤ k ∧ k ≤ 2) ∧ fitsP k v w) ∧ a_nc < 5) from fun z => absurd z.2 (by omega))]; done) | (rw [if_pos (show ((0 ≤ k ∧ k ≤ 2) ∧ fitsP k v w) ∧ a_nc < 5 from ⟨⟨by omega, by assumption⟩, by omega⟩)]; done))⟩ dX6_column_18
  · skip
    refine g_iload_n F 1 rfl rfl dX6_column_7 ?_
    refine g_iload_n F 2 rfl rfl dX6_column_8 ?_
    refine g_iload_n F 3 rfl rfl dX6_column_9 ?_
    refine g_callRS F hV (As := [iv (k), iv (v), iv (w)]) (rest := []) (kX2_fits l D cA k v w (by omega) (by omega) (by omega)) (va_cwS 3 F.2.2.2.2.1 gX6_column_X2_fits rfl rfl rfl (by decide +kernel) ⟨Nat.le_of_ble_eq_true rfl, Nat.le_of_ble_eq_true rfl⟩) [] rfl rfl rfl (Nat.le_of_ble_eq_true rfl) ⟨Nat.le_of_ble_eq_true rfl, Nat.le_of_ble_eq_true rfl⟩ dX6_column_10 (fun v hv => ?_)
    subst hv
    refine g_eq (st' := [iv (if fitsP k v w then 1 else 0)]) rfl rfl rfl ?_
    refine g_ifb_ne F (tgt := 19) dX6_column_13 (by decide) (fun c_2 => ?_) (fun c_2 => ?_)
    · skip
      refine g_aload_n F 0 rfl rfl dX6_column_19 ?_
      refine g_get F hV iX6 0 rfl rfl 0 (by decide) (List.mem_of_getElem? (i := 2) rfl) rfl dX6_column_20 ?_
      refine g_iload_n F 1 rfl rfl dX6_column_23 ?_
      refine g_iload_n F 2 rfl rfl dX6_column_24 ?_
      refine g_iload_n F 3 rfl rfl dX6_column_25 ?_
      refine g_callV F (As := [iv (k), iv (v), iv (w)]) (rest := []) (wr := wC cA x (a 0) (x_ba) (x_sa) (x_qa) (x_ha) (x_so)) (kX2_addColumn l D cA a a_kd a_lo a_hi a_co a_pa a_rk a_nu a_ct a_sa a_nc a_nr k v w (qnc) (by omega) (by omega) (by omega)) (cwV 3 F.2.2.2.2.1 gX6_column_X2_addColumn rfl rfl rfl (by decide +kernel) ⟨Nat.le_of_ble_eq_true rfl, Nat.le_of_ble_eq_true rfl⟩) rfl rfl (q0 := 0) rfl [1, 2, 3, 4, 5, 6, 7, 8, 9, 10] [0] rfl rfl (by decide) (by decide) (by decide) rfl rfl (Nat.le_of_ble_eq_true rfl) ⟨Nat.le_of_ble_eq_true rfl, Nat.le_of_ble_eq_true rfl⟩ hA dX6_column_26 (fun v w hv => ?_)
      obtain ⟨hv, hw⟩ := hv
      subst hv
      subst hw
      by_cases c_3 : a_nc < 5
      · simp only [if_pos c_3]
        refine g_wsub (wC cA x (a 0) (x_ba) (x_sa) (x_qa) (x_ha) (x_so) ++ wP cA a (va_up a_kd a_nc k) (va_up a_lo a_nc (if k = 2 then 0 else v)) (va_up a_hi a_nc (if k = 2 then 1 else w)) (a_co) (va_up a_pa a_nc (-2000000005)) (a_rk) (a_nu) (a_ct) (a_sa) (((a_nc + 1 : Nat) : Int)) (((a_nr : Nat) : Int))) [0, 1, 2, 3, 4, 5, 6, 7, 8, 9, 10] (by decide) rfl ?_
        refine g_eq (st' := [iv ((a_nc : Int))]) rfl rfl rfl ?_
        exact g_zret F rfl rfl (by decide) (by decide) ⟨congrArg (fun z => some (iv z)) (show ((a_nc : Int) : Int) = if (0 ≤ k ∧ k ≤ 2) ∧ fitsP k v w then (if 5 ≤ a_nc then -2000000003 else (a_nc : Int)) else -2000000001 by first | (rw [if_neg (fun z => absurd z.1 (by omega))]; done) | (rw [if_neg (fun z => absurd z.2 (by assumption))]; done) | (rw [if_pos ⟨by omega, by assumption⟩, if_pos (by omega)]; done) | (rw [if_pos ⟨by omega, by assumption⟩, if_neg (by omega)]; done)), (by first | (rw [if_neg (show ¬ (((0 ≤ k ∧ k ≤ 2) ∧ fitsP k v w) ∧ a_nc < 5) from fun z => absurd z.1.1 (by omega))]; done) | (rw [if_neg (show ¬ (((0 ≤ k ∧ k ≤ 2) ∧ fitsP k v w) ∧ a_nc < 5) from fun z => absurd z.1.2 (by assumption))]; done) | (rw [if_neg (show ¬ (((0 ≤ k ∧ k ≤ 2) ∧ fitsP k v w) ∧ a_nc < 5) from fun z => absurd z.2 (by omega))]; done) | (rw [if_pos (show ((0 ≤ k ∧ k ≤ 2) ∧ fitsP k v w) ∧ a_nc < 5 from ⟨⟨by omega, by assumption⟩, by omega⟩)]; done))⟩ dX6_column_29
      · simp only [if_neg c_3]
        refine g_wsub (wC cA x (a 0) (x_ba) (x_sa) (x_qa) (x_ha) (x_so) ++ wP cA a (a_kd) (a_lo) (a_hi) (a_co) (a_pa) (a_rk) (a_nu) (a_ct) (a_sa) (((a_nc : Nat) : Int)) (((a_nr : Nat) : Int))) [0, 1, 2, 3, 4, 5, 6, 7, 8, 9, 10] (by decide) rfl ?_
        refine g_eq (st' := [iv (-2000000003)]) rfl rfl rfl ?_
        exact g_zret F rfl rfl (by decide) (by decide) ⟨congrArg (fun z => some (iv z)) (show (-2000000003 : Int) = if (0 ≤ k ∧ k ≤ 2) ∧ fitsP k v w then (if 5 ≤ a_nc then -2000000003 else (a_nc : Int)) else -2000000001 by first | (rw [if_neg (fun z => absurd z.1 (by omega))]; done) | (rw [if_neg (fun z => absurd z.2 (by assumption))]; done) | (rw [if_pos ⟨by omega, by assumption⟩, if_pos (by omega)]; done) | (rw [if_pos ⟨by omega, by assumption⟩, if_neg (by omega)]; done)), (by first | (rw [if_neg (show ¬ (((0 ≤ k ∧ k ≤ 2) ∧ fitsP k v w) ∧ a_nc < 5) from fun z => absurd z.1.1 (by omega))]; done) | (rw [if_neg (show ¬ (((0 ≤ k ∧ k ≤ 2) ∧ fitsP k v w) ∧ a_nc < 5) from fun z => absurd z.1.2 (by assumption))]; done) | (rw [if_neg (show ¬ (((0 ≤ k ∧ k ≤ 2) ∧ fitsP k v w) ∧ a_nc < 5) from fun z => absurd z.2 (by omega))]; done) | (rw [if_pos (show ((0 ≤ k ∧ k ≤ 2) ∧ fitsP k v w) ∧ a_nc < 5 from ⟨⟨by omega, by assumption⟩, by omega⟩)]; done))⟩ dX6_column_29
    · skip
      refine g_ldc F (-2000000001) (by decide) (List.mem_of_getElem? (i := 1) rfl) dX6_column_16 ?_
      exact g_zret F rfl rfl (by decide) (by decide) ⟨congrArg (fun z => some (iv z)) (show (-2000000001 : Int) = if (0 ≤ k ∧ k ≤ 2) ∧ fitsP k v w then (if 5 ≤ a_nc then -2000000003 else (a_nc : Int)) else -2000000001 by first | (rw [if_neg (fun z => absurd z.1 (by omega))]; done) | (rw [if_neg (fun z => absurd z.2 (by assumption))]; done) | (rw [if_pos ⟨by omega, by assumption⟩, if_pos (by omega)]; done) | (rw [if_pos ⟨by omega, by assumption⟩, if_neg (by omega)]; done)), (by first | (rw [if_neg (show ¬ (((0 ≤ k ∧ k ≤ 2) ∧ fitsP k v w) ∧ a_nc < 5) from fun z => absurd z.1.1 (by omega))]; done) | (rw [if_neg (show ¬ (((0 ≤ k ∧ k ≤ 2) ∧ fitsP k v w) ∧ a_nc < 5) from fun z => absurd z.1.2 (by assumption))]; done) | (rw [if_neg (show ¬ (((0 ≤ k ∧ k ≤ 2) ∧ fitsP k v w) ∧ a_nc < 5) from fun z => absurd z.2 (by omega))]; done) | (rw [if_pos (show ((0 ≤ k ∧ k ≤ 2) ∧ fitsP k v w) ∧ a_nc < 5 from ⟨⟨by omega, by assumption⟩, by omega⟩)]; done))⟩ dX6_column_18
