set_option maxHeartbeats 4000000 in
set_option maxRecDepth 100000 in
theorem kX7_sum (l : Launch) (D : va_G) (cA : Nat → ClassId) (m : Nat → Nat) (m_nc : Nat) (m_nr : Nat) (m_ke : Int) (m_so : Int) (m_bu : Int) (m_bc : Int) (m_pu : Int) (m_qu : Int) (m_fs : Int) (m_cd : Int) (m_un : Int) (m_hb : Int) (m_pf : Int) (m_ef : Int) (m_kd : Nat → Int) (m_lo : Nat → Int) (m_hi : Nat → Int) (m_co : Nat → Int) (m_pa : Nat → Int) (m_rk : Nat → Int) (m_nu : Nat → Int) (m_ct : Nat → Int) (m_sa : Nat → Int) (m_pl : Nat → Int) (m_pr : Nat → Int) (c : Int) (v : Int) (hc : -2147483648 ≤ c ∧ c ≤ 2147483647) (hv : -2147483648 ≤ v ∧ v ≤ 2147483647) (qnc : m_nc ≤ 5) (qnr : m_nr ≤ 7) (qkd : ∀ j, 0 ≤ m_kd j ∧ m_kd j ≤ 2) (qsa : ∀ j, -9 ≤ m_sa j ∧ m_sa j ≤ 9) (hpl : ∀ j, -200000000000 ≤ m_pl j ∧ m_pl j ≤ 200000000000) (hpb : 0 < m_pu ∧ m_pu ≤ 8000000) : CR l yX7_sum wsX7_sum ({ frames := 2, cells := 0, slots := 0, locals := 55 }) D cA [.ref (m 0), iv (c), iv (v)] (wMO cA m (((m_nc : Nat) : Int)) (((m_nr : Nat) : Int)) (m_ke) (m_so) (m_bu) (m_bc) (m_pu) (m_qu) (m_fs) (m_cd) (m_un) (m_hb) (m_pf) (m_ef) ++ wMP cA m (m_kd) (m_lo) (m_hi) (m_co) (m_pa) (m_rk) (m_nu) (m_ct) (m_sa) ++ wMH cA m (m_pl) (m_pr)) (fun ov => ov = some (jv (if (0 ≤ c ∧ c < (m_nr : Int)) ∧ (v = 0 ∨ v = 1) then lowZ (sumZ (fun j => m_sa (c.toNat * 5 + j) * m_pl j) m_nc) m_pu v else -2000000001))) := by
  refine CR.mk (cc := cX7_sum) (maxL := 3) (ret := (some .long)) (by decide +kernel) rfl (Nat.le_of_ble_eq_true rfl) ?_
  intro p_ e_ s_ m_ b_ me_ c_ F
  have hV := @IR_P D s_
  have iX7 : ∀ w ∈ u_ws RX7 TX7 38, w ∈ wsX7_sum := by decide +kernel
  refine g_lsub ([(0, .ref (m 0)), (1, iv (c)), (2, iv (v))]) [0, 1, 2] rfl ?_
  refine g_aload_n F 0 rfl rfl dX7_sum_0 ?_
  refine g_iload_n F 1 rfl rfl dX7_sum_1 ?_
  refine g_callRV F hV (As := [iv (c)]) (rest := []) (kX7_isRow l D cA m m_nc m_nr m_ke m_so m_bu m_bc m_pu m_qu m_fs m_cd m_un m_hb m_pf m_ef c (by omega) (qnr)) (cwV 1 F.2.2.2.2.1 gX7_sum_X7_isRow rfl rfl rfl (by decide +kernel) ⟨Nat.le_of_ble_eq_true rfl, Nat.le_of_ble_eq_true rfl⟩) rfl rfl (q0 := 0) rfl [0] rfl rfl rfl (Nat.le_of_ble_eq_true rfl) ⟨Nat.le_of_ble_eq_true rfl, Nat.le_of_ble_eq_true rfl⟩ dX7_sum_2 (fun v hv => ?_)
  subst hv
  refine g_eq (st' := [iv (if 0 ≤ c ∧ c < (m_nr : Int) then 1 else 0)]) rfl rfl rfl ?_
  refine g_ifb_eq F (tgt := 17) dX7_sum_5 (by decide) (fun c_1 => ?_) (fun c_1 => ?_)
  · skip
    refine g_ldc2 F (-2000000001) (by decide) (List.mem_of_getElem? (i := 1) rfl) dX7_sum_17 ?_
    exact g_lretR F rfl (congrArg (fun z => some (jv z)) (show (-2000000001 : Int) = if (0 ≤ c ∧ c < (m_nr : Int)) ∧ (v = 0 ∨ v = 1) then lowZ (sumZ (fun j => m_sa (c.toNat * 5 + j) * m_pl j) m_nc) m_pu v else -2000000001 by (try simp only [Int.toNat_natCast]); first | (rw [if_neg (by omega)]; done) | (rw [if_pos (by omega)]; done))) dX7_sum_20
  · skip
    obtain ⟨cn, hcn⟩ : ∃ y : Nat, c = (y : Int) := ⟨c.toNat, by omega⟩
    subst hcn
    refine g_iload_n F 2 rfl rfl dX7_sum_8 ?_
    refine g_iconst F dX7_sum_9 ?_
    refine g_iconst F dX7_sum_10 ?_
    refine g_callRS F hV (As := [iv (v), iv (0), iv (1)]) (rest := []) (kX7_isIn l D cA v 0 1 (by omega) (by omega) (by omega)) (va_cwS 3 F.2.2.2.2.1 gX7_sum_X7_isIn rfl rfl rfl (by decide +kernel) ⟨Nat.le_of_ble_eq_true rfl, Nat.le_of_ble_eq_true rfl⟩) [] rfl rfl rfl (Nat.le_of_ble_eq_true rfl) ⟨Nat.le_of_ble_eq_true rfl, Nat.le_of_ble_eq_true rfl⟩ dX7_sum_11 (fun v hv => ?_)
    subst hv
    refine g_eq (st' := [iv (if 0 ≤ v ∧ v ≤ 1 then 1 else 0)]) rfl rfl rfl ?_
    refine g_ifb_ne F (tgt := 21) dX7_sum_14 (by decide) (fun c_2 => ?_) (fun c_2 => ?_)
    · skip
      refine g_aload_n F 0 rfl rfl dX7_sum_21 ?_
      refine g_iload_n F 1 rfl rfl dX7_sum_22 ?_
      refine g_callRV F hV (As := [iv (((cn : Nat) : Int))]) (rest := []) (kX7_sumOf l D cA m m_nc m_nr m_ke m_so m_bu m_bc m_pu m_qu m_fs m_cd m_un m_hb m_pf m_ef m_kd m_lo m_hi m_co m_pa m_rk m_nu m_ct m_sa m_pl m_pr cn (by omega) (qnc) (qsa)) (cwV 1 F.2.2.2.2.1 gX7_sum_X7_sumOf rfl rfl rfl (by decide +kernel) ⟨Nat.le_of_ble_eq_true rfl, Nat.le_of_ble_eq_true rfl⟩) rfl rfl (q0 := 0) rfl [0, 1, 2, 3, 4, 5, 6, 7, 8, 9, 10, 11] rfl rfl rfl (Nat.le_of_ble_eq_true rfl) ⟨Nat.le_of_ble_eq_true rfl, Nat.le_of_ble_eq_true rfl⟩ dX7_sum_23 (fun v hv => ?_)
      subst hv
      refine g_eq (st' := [jv (sumZ (fun j => m_sa (cn * 5 + j) * m_pl j) m_nc)]) rfl rfl rfl ?_
      refine g_aload_n F 0 rfl rfl dX7_sum_26 ?_
      refine g_get F hV iX7 0 rfl rfl 17 (by decide) (List.mem_of_getElem? (i := 2) rfl) rfl dX7_sum_27 ?_
      refine g_iload_n F 2 rfl rfl dX7_sum_30 ?_
      refine g_callRS F hV (As := [jv (sumZ (fun j => m_sa (cn * 5 + j) * m_pl j) m_nc), jv (m_pu), iv (v)]) (rest := []) (kX7_part l D cA (sumZ (fun j => m_sa (cn * 5 + j) * m_pl j) m_nc) m_pu v (by have := sum_big (f := fun j => m_sa (cn * 5 + j) * m_pl j) m_nc (fun j _ => nine_mul (qsa _) (hpl j)); omega) (by omega) (by omega)) (va_cwS 3 F.2.2.2.2.1 gX7_sum_X7_part rfl rfl rfl (by decide +kernel) ⟨Nat.le_of_ble_eq_true rfl, Nat.le_of_ble_eq_true rfl⟩) [] rfl rfl rfl (Nat.le_of_ble_eq_true rfl) ⟨Nat.le_of_ble_eq_true rfl, Nat.le_of_ble_eq_true rfl⟩ dX7_sum_31 (fun v hv => ?_)
      subst hv
      refine g_eq (st' := [jv (lowZ (sumZ (fun j => m_sa (cn * 5 + j) * m_pl j) m_nc) m_pu v)]) rfl rfl rfl ?_
      exact g_lretR F rfl (congrArg (fun z => some (jv z)) (show (lowZ (sumZ (fun j => m_sa (cn * 5 + j) * m_pl j) m_nc) m_pu v : Int) = if (0 ≤ ((cn : Nat) : Int) ∧ ((cn : Nat) : Int) < (m_nr : Int)) ∧ (v = 0 ∨ v = 1) then lowZ (sumZ (fun j => m_sa (((cn : Nat) : Int).toNat * 5 + j) * m_pl j) m_nc) m_pu v else -2000000001 by (try simp only [Int.toNat_natCast]); first | (rw [if_neg (by omega)]; done) | (rw [if_pos (by omega)]; done))) dX7_sum_34
    · skip
      refine g_ldc2 F (-2000000001) (by decide) (List.mem_of_getElem? (i := 1) rfl) dX7_sum_17 ?_
      exact g_lretR F rfl (congrArg (fun z => some (jv z)) (show (-2000000001 : Int) = if (0 ≤ ((cn : Nat) : Int) ∧ ((cn : Nat) : Int) < (m_nr : Int)) ∧ (v = 0 ∨ v = 1) then lowZ (sumZ (fun j => m_sa (((cn : Nat) : Int).toNat * 5 + j) * m_pl j) m_nc) m_pu v else -2000000001 by (try simp only [Int.toNat_natCast]); first | (rw [if_neg (by omega)]; done) | (rw [if_pos (by omega)]; done))) dX7_sum_20

set_option maxHeartbeats 4000000 in
set_option maxRecDepth 100000 in
theorem kX7_manyOfKind (l : Launch) (D : va_G) (cA : Nat → ClassId) (m : Nat → Nat) (m_nc : Nat) (m_nr : Nat) (m_ke : Int) (m_so : Int) (m_bu : Int) (m_bc : Int) (m_pu : Int) (m_qu : Int) (m_fs : Int) (m_cd : Int) (m_un : Int) (m_hb : Int) (m_pf : Int) (m_ef : Int) (m_kd : Nat → Int) (m_lo : Nat → Int) (m_hi : Nat → Int) (m_co : Nat → Int) (m_pa : Nat → Int) (m_rk : Nat → Int) (m_nu : Nat → Int) (m_ct : Nat → Int) (m_sa : Nat → Int) (k : Int) (qnc : m_nc ≤ 5) (qkd : ∀ j, 0 ≤ m_kd j ∧ m_kd j ≤ 2) (hk : 0 ≤ k ∧ k ≤ 2) : CR l yX7_manyOfKind wsX7_manyOfKind ({ frames := 0, cells := 0, slots := 0, locals := 0 }) D cA [.ref (m 0), iv (k)] (wMO cA m (((m_nc : Nat) : Int)) (((m_nr : Nat) : Int)) (m_ke) (m_so) (m_bu) (m_bc) (m_pu) (m_qu) (m_fs) (m_cd) (m_un) (m_hb) (m_pf) (m_ef) ++ wMP cA m (m_kd) (m_lo) (m_hi) (m_co) (m_pa) (m_rk) (m_nu) (m_ct) (m_sa)) (fun ov => ov = some (iv (((cntZ (fun j => decide (k ≤ m_kd j)) m_nc : Nat) : Int)))) := by
  refine CR.mk (cc := cX7_manyOfKind) (maxL := 4) (ret := (some .int)) (by decide +kernel) rfl (Nat.le_of_ble_eq_true rfl) ?_
  intro p_ e_ s_ m_ b_ me_ c_ F
  have hV := @IR_P D s_
  have iX7 : ∀ w ∈ u_ws RX7 TX7 38, w ∈ wsX7_manyOfKind := by decide +kernel
  refine g_lsub ([(0, .ref (m 0)), (1, iv (k))]) [0, 1] rfl ?_
  refine g_iconst F dX7_manyOfKind_0 ?_
  refine g_istore_n F ([(2, iv (0)), (0, .ref (m 0)), (1, iv (k))]) rfl rfl (by decide) dX7_manyOfKind_1 ?_
  refine g_iconst F dX7_manyOfKind_2 ?_
  refine g_istore_n F ([(3, iv (0)), (2, iv (0)), (0, .ref (m 0)), (1, iv (k))]) rfl rfl (by decide) dX7_manyOfKind_3 ?_
  have lp4 : ∀ (n : Nat) (c : Nat) (x : Nat) (hc : c ≤ m_nc) (hx : x = cntZ (fun j => decide (k ≤ m_kd j)) c), m_nc - c < n → GW p_ l e_ (headSpec wsX7_manyOfKind ({ frames := 0, cells := 0, slots := 0, locals := 0 })).room s_ m_ ([.ref (m 0), iv (k)]).toArray b_ me_ c_ (MQ b_ (Qr (fun ov => ov = some (iv (((cntZ (fun j => decide (k ≤ m_kd j)) m_nc : Nat) : Int))))) ([.ref (m 0), iv (k)]).toArray s_ 0 0 (fun _ => False)) (IR D s_) 4 0 0 (wMO cA m (((m_nc : Nat) : Int)) (((m_nr : Nat) : Int)) (m_ke) (m_so) (m_bu) (m_bc) (m_pu) (m_qu) (m_fs) (m_cd) (m_un) (m_hb) (m_pf) (m_ef) ++ wMP cA m (m_kd) (m_lo) (m_hi) (m_co) (m_pa) (m_rk) (m_nu) (m_ct) (m_sa)) ([(0, .ref (m 0)), (1, iv (k)), (2, iv (((x : Nat) : Int))), (3, iv (((c : Nat) : Int)))]) [] 4 := by
    intro n; induction n with
    | zero => intro c x; intros; omega
    | succ n ih4 =>
      intro c x hc hx hmu4
      have hxl := cntZ_le (fun j => decide (k ≤ m_kd j)) c
      refine g_iload_n F 3 rfl rfl dX7_manyOfKind_4 ?_
      refine g_aload_n F 0 rfl rfl dX7_manyOfKind_5 ?_
      refine g_get F hV iX7 0 rfl rfl 0 (by decide) (List.mem_of_getElem? (i := 1) rfl) rfl dX7_manyOfKind_6 ?_
      refine g_icmp_ge F (tgt := 36) dX7_manyOfKind_9 (by decide) ⟨by omega, by omega⟩ ⟨by omega, by omega⟩ (fun c_1 => ?_) (fun c_1 => ?_)
      · skip
        refine g_iload_n F 2 rfl rfl dX7_manyOfKind_36 ?_
        exact g_zretR F rfl rfl (congrArg (fun z => some (iv z)) (show (((x : Nat) : Int) : Int) = ((cntZ (fun j => decide (k ≤ m_kd j)) m_nc : Nat) : Int) by subst hx; congr 2; omega)) dX7_manyOfKind_37
      · skip
        refine g_iload_n F 2 rfl rfl dX7_manyOfKind_12 ?_
        refine g_aload_n F 0 rfl rfl dX7_manyOfKind_13 ?_
        refine g_get F hV iX7 0 rfl rfl 1 (by decide) (List.mem_of_getElem? (i := 2) rfl) rfl dX7_manyOfKind_14 ?_
        refine g_iload_n F 3 rfl rfl dX7_manyOfKind_17 ?_
        have r_2 := qkd (c)
        refine g_iald F hV 1 rfl (c) (by omega) (by omega) (by decide) dX7_manyOfKind_18 ?_
        refine g_iload_n F 1 rfl rfl dX7_manyOfKind_19 ?_
        refine g_icmp_lt F (tgt := 27) dX7_manyOfKind_20 (by decide) ⟨by omega, by omega⟩ ⟨by omega, by omega⟩ (fun c_3 => ?_) (fun c_3 => ?_)
        · skip
          refine g_iconst F dX7_manyOfKind_27 ?_
          refine g_iadd F dX7_manyOfKind_28 ?_
          refine g_istore_n F ([(2, iv ((((x : Nat) : Int)) + 0)), (0, .ref (m 0)), (1, iv (k)), (3, iv (((c : Nat) : Int)))]) rfl rfl (by decide) dX7_manyOfKind_29 ?_
          refine g_iinc F 3 rfl ([(3, iv ((((c : Nat) : Int)) + 1)), (2, iv ((((x : Nat) : Int)) + 0)), (0, .ref (m 0)), (1, iv (k))]) rfl (by decide) dX7_manyOfKind_30 ?_
          refine g_goto F (tgt := 4) dX7_manyOfKind_33 (by decide) ?_
          refine g_lsub ([(0, .ref (m 0)), (1, iv (k)), (2, iv ((((x : Nat) : Int)) + 0)), (3, iv ((((c : Nat) : Int)) + 1))]) [2, 3, 1, 0] rfl ?_
          exact ih4 (c + 1) (x + 0) (by omega) (by rw [hx, cntZ_succ]; first | (rw [if_pos (decide_eq_true (by omega))]; done) | (rw [if_neg (by rw [decide_eq_true_eq]; omega)]; done)) (by omega)
        · skip
          refine g_iconst F dX7_manyOfKind_23 ?_
          refine g_goto F (tgt := 28) dX7_manyOfKind_24 (by decide) ?_
          refine g_iadd F dX7_manyOfKind_28 ?_
          refine g_istore_n F ([(2, iv ((((x : Nat) : Int)) + 1)), (0, .ref (m 0)), (1, iv (k)), (3, iv (((c : Nat) : Int)))]) rfl rfl (by decide) dX7_manyOfKind_29 ?_
          refine g_iinc F 3 rfl ([(3, iv ((((c : Nat) : Int)) + 1)), (2, iv ((((x : Nat) : Int)) + 1)), (0, .ref (m 0)), (1, iv (k))]) rfl (by decide) dX7_manyOfKind_30 ?_
          refine g_goto F (tgt := 4) dX7_manyOfKind_33 (by decide) ?_
          refine g_lsub ([(0, .ref (m 0)), (1, iv (k)), (2, iv ((((x : Nat) : Int)) + 1)), (3, iv ((((c : Nat) : Int)) + 1))]) [2, 3, 1, 0] rfl ?_
          exact ih4 (c + 1) (x + 1) (by omega) (by rw [hx, cntZ_succ]; first | (rw [if_pos (decide_eq_true (by omega))]; done) | (rw [if_neg (by rw [decide_eq_true_eq]; omega)]; done)) (by omega)
  refine g_lsub ([(0, .ref (m 0)), (1, iv (k)), (2, iv (0)), (3, iv (0))]) [2, 3, 1, 0] rfl ?_
  exact lp4 (_ + 1) 0 0 (by omega) (rfl) (Nat.lt_succ_self _)

set_option maxHeartbeats 4000000 in
set_option maxRecDepth 100000 in
theorem kX7_count (l : Launch) (D : va_G) (cA : Nat → ClassId) (m : Nat → Nat) (m_nc : Nat) (m_nr : Nat) (m_ke : Int) (m_so : Int) (m_bu : Int) (m_bc : Int) (m_pu : Int) (m_qu : Int) (m_fs : Int) (m_cd : Int) (m_un : Int) (m_hb : Int) (m_pf : Int) (m_ef : Int) (m_kd : Nat → Int) (m_lo : Nat → Int) (m_hi : Nat → Int) (m_co : Nat → Int) (m_pa : Nat → Int) (m_rk : Nat → Int) (m_nu : Nat → Int) (m_ct : Nat → Int) (m_sa : Nat → Int) (v : Int) (hv : -2147483648 ≤ v ∧ v ≤ 2147483647) (qnc : m_nc ≤ 5) (qnr : m_nr ≤ 7) (qkd : ∀ j, 0 ≤ m_kd j ∧ m_kd j ≤ 2) (qct : ∀ j, 0 ≤ m_ct j ∧ m_ct j ≤ 1) : CR l yX7_count wsX7_count ({ frames := 1, cells := 0, slots := 0, locals := 23 }) D cA [.ref (m 0), iv (v)] (wMO cA m (((m_nc : Nat) : Int)) (((m_nr : Nat) : Int)) (m_ke) (m_so) (m_bu) (m_bc) (m_pu) (m_qu) (m_fs) (m_cd) (m_un) (m_hb) (m_pf) (m_ef) ++ wMP cA m (m_kd) (m_lo) (m_hi) (m_co) (m_pa) (m_rk) (m_nu) (m_ct) (m_sa)) (fun ov => ov = some (iv (if v = 0 then (m_nc : Int) else if v = 1 then (m_nr : Int) else if v = 2 then ((bitsN (setZ m_ct m_nr) : Nat) : Int) else if v = 3 then ((cntZ (fun j => decide (1 ≤ m_kd j)) m_nc : Nat) : Int) else if v = 4 then ((cntZ (fun j => decide (2 ≤ m_kd j)) m_nc : Nat) : Int) else if v = 5 then m_so else -2000000001))) := by
  refine CR.mk (cc := cX7_count) (maxL := 2) (ret := (some .int)) (by decide +kernel) rfl (Nat.le_of_ble_eq_true rfl) ?_
  intro p_ e_ s_ m_ b_ me_ c_ F
  have hV := @IR_P D s_
  have iX7 : ∀ w ∈ u_ws RX7 TX7 38, w ∈ wsX7_count := by decide +kernel
  refine g_lsub ([(0, .ref (m 0)), (1, iv (v))]) [0, 1] rfl ?_
  refine g_iload_n F 1 rfl rfl dX7_count_0 ?_
  rcases (show v = 0 ∨ v = 1 ∨ v = 2 ∨ v = 3 ∨ v = 4 ∨ v = 5 ∨ (v < 0 ∨ 5 < v) by omega) with k_1 | k_1 | k_1 | k_1 | k_1 | k_1 | k_1
  · skip
    refine g_tswIn F (tgt := 40) 0 dX7_count_1 (by rw [k_1]; rfl) rfl (by decide) ⟨by omega, by omega⟩ (by omega) ?_
    refine g_aload_n F 0 rfl rfl dX7_count_40 ?_
    refine g_get F hV iX7 0 rfl rfl 0 (by decide) (List.mem_of_getElem? (i := 1) rfl) rfl dX7_count_41 ?_
    exact g_zretR F rfl rfl (congrArg (fun z => some (iv z)) (show (((m_nc : Nat) : Int) : Int) = if v = 0 then (m_nc : Int) else if v = 1 then (m_nr : Int) else if v = 2 then ((bitsN (setZ m_ct m_nr) : Nat) : Int) else if v = 3 then ((cntZ (fun j => decide (1 ≤ m_kd j)) m_nc : Nat) : Int) else if v = 4 then ((cntZ (fun j => decide (2 ≤ m_kd j)) m_nc : Nat) : Int) else if v = 5 then m_so else -2000000001 by first | (rw [if_pos (by omega)]; done) | (rw [if_neg (by omega), if_pos (by omega)]; done) | (rw [if_neg (by omega), if_neg (by omega), if_pos (by omega)]; done) | (rw [if_neg (by omega), if_neg (by omega), if_neg (by omega), if_pos (by omega)]; done) | (rw [if_neg (by omega), if_neg (by omega), if_neg (by omega), if_neg (by omega), if_pos (by omega)]; done) | (rw [if_neg (by omega), if_neg (by omega), if_neg (by omega), if_neg (by omega), if_neg (by omega), if_pos (by omega)]; done) | (rw [if_neg (by omega), if_neg (by omega), if_neg (by omega), if_neg (by omega), if_neg (by omega), if_neg (by omega)]; done))) dX7_count_44
  · skip
    refine g_tswIn F (tgt := 45) 1 dX7_count_1 (by rw [k_1]; rfl) rfl (by decide) ⟨by omega, by omega⟩ (by omega) ?_
    refine g_aload_n F 0 rfl rfl dX7_count_45 ?_
    refine g_get F hV iX7 0 rfl rfl 6 (by decide) (List.mem_of_getElem? (i := 2) rfl) rfl dX7_count_46 ?_
    exact g_zretR F rfl rfl (congrArg (fun z => some (iv z)) (show (((m_nr : Nat) : Int) : Int) = if v = 0 then (m_nc : Int) else if v = 1 then (m_nr : Int) else if v = 2 then ((bitsN (setZ m_ct m_nr) : Nat) : Int) else if v = 3 then ((cntZ (fun j => decide (1 ≤ m_kd j)) m_nc : Nat) : Int) else if v = 4 then ((cntZ (fun j => decide (2 ≤ m_kd j)) m_nc : Nat) : Int) else if v = 5 then m_so else -2000000001 by first | (rw [if_pos (by omega)]; done) | (rw [if_neg (by omega), if_pos (by omega)]; done) | (rw [if_neg (by omega), if_neg (by omega), if_pos (by omega)]; done) | (rw [if_neg (by omega), if_neg (by omega), if_neg (by omega), if_pos (by omega)]; done) | (rw [if_neg (by omega), if_neg (by omega), if_neg (by omega), if_neg (by omega), if_pos (by omega)]; done) | (rw [if_neg (by omega), if_neg (by omega), if_neg (by omega), if_neg (by omega), if_neg (by omega), if_pos (by omega)]; done) | (rw [if_neg (by omega), if_neg (by omega), if_neg (by omega), if_neg (by omega), if_neg (by omega), if_neg (by omega)]; done))) dX7_count_49
  · skip
    refine g_tswIn F (tgt := 50) 2 dX7_count_1 (by rw [k_1]; rfl) rfl (by decide) ⟨by omega, by omega⟩ (by omega) ?_
    refine g_aload_n F 0 rfl rfl dX7_count_50 ?_
    refine g_callRV F hV (As := []) (rest := []) (kX7_counting l D cA m m_nc m_nr m_ke m_so m_bu m_bc m_pu m_qu m_fs m_cd m_un m_hb m_pf m_ef m_kd m_lo m_hi m_co m_pa m_rk m_nu m_ct m_sa (qnr) (qct)) (cwV 0 F.2.2.2.2.1 gX7_count_X7_counting rfl rfl rfl (by decide +kernel) ⟨Nat.le_of_ble_eq_true rfl, Nat.le_of_ble_eq_true rfl⟩) rfl rfl (q0 := 0) rfl [0, 1, 2, 3, 4, 5, 6, 7, 8, 9] rfl rfl rfl (Nat.le_of_ble_eq_true rfl) ⟨Nat.le_of_ble_eq_true rfl, Nat.le_of_ble_eq_true rfl⟩ dX7_count_51 (fun v hv => ?_)
    subst hv
    refine g_eq (st' := [iv (((setZ m_ct m_nr : Nat) : Int))]) rfl rfl rfl ?_
    refine g_callRS F hV (As := [iv (((setZ m_ct m_nr : Nat) : Int))]) (rest := []) (kX7_manyOf l D cA (setZ m_ct m_nr) (Nat.lt_of_lt_of_le (setZ_lt m_ct m_nr) (Nat.pow_le_pow_right (n := 2) (by decide) qnr))) (va_cwS 1 F.2.2.2.2.1 gX7_count_X7_manyOf rfl rfl rfl (by decide +kernel) ⟨Nat.le_of_ble_eq_true rfl, Nat.le_of_ble_eq_true rfl⟩) [] rfl rfl rfl (Nat.le_of_ble_eq_true rfl) ⟨Nat.le_of_ble_eq_true rfl, Nat.le_of_ble_eq_true rfl⟩ dX7_count_54 (fun v hv => ?_)
    subst hv
    refine g_eq (st' := [iv (((bitsN (setZ m_ct m_nr) : Nat) : Int))]) rfl rfl rfl ?_
    exact g_zretR F rfl rfl (congrArg (fun z => some (iv z)) (show (((bitsN (setZ m_ct m_nr) : Nat) : Int) : Int) = if v = 0 then (m_nc : Int) else if v = 1 then (m_nr : Int) else if v = 2 then ((bitsN (setZ m_ct m_nr) : Nat) : Int) else if v = 3 then ((cntZ (fun j => decide (1 ≤ m_kd j)) m_nc : Nat) : Int) else if v = 4 then ((cntZ (fun j => decide (2 ≤ m_kd j)) m_nc : Nat) : Int) else if v = 5 then m_so else -2000000001 by first | (rw [if_pos (by omega)]; done) | (rw [if_neg (by omega), if_pos (by omega)]; done) | (rw [if_neg (by omega), if_neg (by omega), if_pos (by omega)]; done) | (rw [if_neg (by omega), if_neg (by omega), if_neg (by omega), if_pos (by omega)]; done) | (rw [if_neg (by omega), if_neg (by omega), if_neg (by omega), if_neg (by omega), if_pos (by omega)]; done) | (rw [if_neg (by omega), if_neg (by omega), if_neg (by omega), if_neg (by omega), if_neg (by omega), if_pos (by omega)]; done) | (rw [if_neg (by omega), if_neg (by omega), if_neg (by omega), if_neg (by omega), if_neg (by omega), if_neg (by omega)]; done))) dX7_count_57
  · skip
    refine g_tswIn F (tgt := 58) 3 dX7_count_1 (by rw [k_1]; rfl) rfl (by decide) ⟨by omega, by omega⟩ (by omega) ?_
    refine g_aload_n F 0 rfl rfl dX7_count_58 ?_
    refine g_iconst F dX7_count_59 ?_
    refine g_callRV F hV (As := [iv (1)]) (rest := []) (kX7_manyOfKind l D cA m m_nc m_nr m_ke m_so m_bu m_bc m_pu m_qu m_fs m_cd m_un m_hb m_pf m_ef m_kd m_lo m_hi m_co m_pa m_rk m_nu m_ct m_sa 1 (qnc) (qkd) (by omega)) (cwV 1 F.2.2.2.2.1 gX7_count_X7_manyOfKind rfl rfl rfl (by decide +kernel) ⟨Nat.le_of_ble_eq_true rfl, Nat.le_of_ble_eq_true rfl⟩) rfl rfl (q0 := 0) rfl [0, 1, 2, 3, 4, 5, 6, 7, 8, 9] rfl rfl rfl (Nat.le_of_ble_eq_true rfl) ⟨Nat.le_of_ble_eq_true rfl, Nat.le_of_ble_eq_true rfl⟩ dX7_count_60 (fun v hv => ?_)
    subst hv
    refine g_eq (st' := [iv (((cntZ (fun j => decide (1 ≤ m_kd j)) m_nc : Nat) : Int))]) rfl rfl rfl ?_
    exact g_zretR F rfl rfl (congrArg (fun z => some (iv z)) (show (((cntZ (fun j => decide (1 ≤ m_kd j)) m_nc : Nat) : Int) : Int) = if v = 0 then (m_nc : Int) else if v = 1 then (m_nr : Int) else if v = 2 then ((bitsN (setZ m_ct m_nr) : Nat) : Int) else if v = 3 then ((cntZ (fun j => decide (1 ≤ m_kd j)) m_nc : Nat) : Int) else if v = 4 then ((cntZ (fun j => decide (2 ≤ m_kd j)) m_nc : Nat) : Int) else if v = 5 then m_so else -2000000001 by first | (rw [if_pos (by omega)]; done) | (rw [if_neg (by omega), if_pos (by omega)]; done) | (rw [if_neg (by omega), if_neg (by omega), if_pos (by omega)]; done) | (rw [if_neg (by omega), if_neg (by omega), if_neg (by omega), if_pos (by omega)]; done) | (rw [if_neg (by omega), if_neg (by omega), if_neg (by omega), if_neg (by omega), if_pos (by omega)]; done) | (rw [if_neg (by omega), if_neg (by omega), if_neg (by omega), if_neg (by omega), if_neg (by omega), if_pos (by omega)]; done) | (rw [if_neg (by omega), if_neg (by omega), if_neg (by omega), if_neg (by omega), if_neg (by omega), if_neg (by omega)]; done))) dX7_count_63
  · skip
    refine g_tswIn F (tgt := 64) 4 dX7_count_1 (by rw [k_1]; rfl) rfl (by decide) ⟨by omega, by omega⟩ (by omega) ?_
    refine g_aload_n F 0 rfl rfl dX7_count_64 ?_
    refine g_iconst F dX7_count_65 ?_
    refine g_callRV F hV (As := [iv (2)]) (rest := []) (kX7_manyOfKind l D cA m m_nc m_nr m_ke m_so m_bu m_bc m_pu m_qu m_fs m_cd m_un m_hb m_pf m_ef m_kd m_lo m_hi m_co m_pa m_rk m_nu m_ct m_sa 2 (qnc) (qkd) (by omega)) (cwV 1 F.2.2.2.2.1 gX7_count_X7_manyOfKind rfl rfl rfl (by decide +kernel) ⟨Nat.le_of_ble_eq_true rfl, Nat.le_of_ble_eq_true rfl⟩) rfl rfl (q0 := 0) rfl [0, 1, 2, 3, 4, 5, 6, 7, 8, 9] rfl rfl rfl (Nat.le_of_ble_eq_true rfl) ⟨Nat.le_of_ble_eq_true rfl, Nat.le_of_ble_eq_true rfl⟩ dX7_count_66 (fun v hv => ?_)
    subst hv
    refine g_eq (st' := [iv (((cntZ (fun j => decide (2 ≤ m_kd j)) m_nc : Nat) : Int))]) rfl rfl rfl ?_
    exact g_zretR F rfl rfl (congrArg (fun z => some (iv z)) (show (((cntZ (fun j => decide (2 ≤ m_kd j)) m_nc : Nat) : Int) : Int) = if v = 0 then (m_nc : Int) else if v = 1 then (m_nr : Int) else if v = 2 then ((bitsN (setZ m_ct m_nr) : Nat) : Int) else if v = 3 then ((cntZ (fun j => decide (1 ≤ m_kd j)) m_nc : Nat) : Int) else if v = 4 then ((cntZ (fun j => decide (2 ≤ m_kd j)) m_nc : Nat) : Int) else if v = 5 then m_so else -2000000001 by first | (rw [if_pos (by omega)]; done) | (rw [if_neg (by omega), if_pos (by omega)]; done) | (rw [if_neg (by omega), if_neg (by omega), if_pos (by omega)]; done) | (rw [if_neg (by omega), if_neg (by omega), if_neg (by omega), if_pos (by omega)]; done) | (rw [if_neg (by omega), if_neg (by omega), if_neg (by omega), if_neg (by omega), if_pos (by omega)]; done) | (rw [if_neg (by omega), if_neg (by omega), if_neg (by omega), if_neg (by omega), if_neg (by omega), if_pos (by omega)]; done) | (rw [if_neg (by omega), if_neg (by omega), if_neg (by omega), if_neg (by omega), if_neg (by omega), if_neg (by omega)]; done))) dX7_count_69
  · skip
    refine g_tswIn F (tgt := 70) 5 dX7_count_1 (by rw [k_1]; rfl) rfl (by decide) ⟨by omega, by omega⟩ (by omega) ?_
    refine g_aload_n F 0 rfl rfl dX7_count_70 ?_
    refine g_get F hV iX7 0 rfl rfl 12 (by decide) (List.mem_of_getElem? (i := 3) rfl) rfl dX7_count_71 ?_
    exact g_zretR F rfl rfl (congrArg (fun z => some (iv z)) (show (m_so : Int) = if v = 0 then (m_nc : Int) else if v = 1 then (m_nr : Int) else if v = 2 then ((bitsN (setZ m_ct m_nr) : Nat) : Int) else if v = 3 then ((cntZ (fun j => decide (1 ≤ m_kd j)) m_nc : Nat) : Int) else if v = 4 then ((cntZ (fun j => decide (2 ≤ m_kd j)) m_nc : Nat) : Int) else if v = 5 then m_so else -2000000001 by first | (rw [if_pos (by omega)]; done) | (rw [if_neg (by omega), if_pos (by omega)]; done) | (rw [if_neg (by omega), if_neg (by omega), if_pos (by omega)]; done) | (rw [if_neg (by omega), if_neg (by omega), if_neg (by omega), if_pos (by omega)]; done) | (rw [if_neg (by omega), if_neg (by omega), if_neg (by omega), if_neg (by omega), if_pos (by omega)]; done) | (rw [if_neg (by omega), if_neg (by omega), if_neg (by omega), if_neg (by omega), if_neg (by omega), if_pos (by omega)]; done) | (rw [if_neg (by omega), if_neg (by omega), if_neg (by omega), if_neg (by omega), if_neg (by omega), if_neg (by omega)]; done))) dX7_count_74
  · skip
    refine g_tswOut F (tgt := 75) dX7_count_1 ⟨by omega, by omega⟩ (by omega) (by decide) ?_
    refine g_ldc F (-2000000001) (by decide) (List.mem_of_getElem? (i := 4) rfl) dX7_count_75 ?_
    exact g_zretR F rfl rfl (congrArg (fun z => some (iv z)) (show (-2000000001 : Int) = if v = 0 then (m_nc : Int) else if v = 1 then (m_nr : Int) else if v = 2 then ((bitsN (setZ m_ct m_nr) : Nat) : Int) else if v = 3 then ((cntZ (fun j => decide (1 ≤ m_kd j)) m_nc : Nat) : Int) else if v = 4 then ((cntZ (fun j => decide (2 ≤ m_kd j)) m_nc : Nat) : Int) else if v = 5 then m_so else -2000000001 by first | (rw [if_pos (by omega)]; done) | (rw [if_neg (by omega), if_pos (by omega)]; done) | (rw [if_neg (by omega), if_neg (by omega), if_pos (by omega)]; done) | (rw [if_neg (by omega), if_neg (by omega), if_neg (by omega), if_pos (by omega)]; done) | (rw [if_neg (by omega), if_neg (by omega), if_neg (by omega), if_neg (by omega), if_pos (by omega)]; done) | (rw [if_neg (by omega), if_neg (by omega), if_neg (by omega), if_neg (by omega), if_neg (by omega), if_pos (by omega)]; done) | (rw [if_neg (by omega), if_neg (by omega), if_neg (by omega), if_neg (by omega), if_neg (by omega), if_neg (by omega)]; done))) dX7_count_77
