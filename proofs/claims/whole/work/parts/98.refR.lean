theorem FP_num {nc nr : Nat} {kd pa lo hi rk ct sa f g : Nat → Int} (h : ∀ r, r < nr → f r = g r) (y : Nat → Int) : FP nc kd pa lo hi (phiP rk ct sa nc f nr) y ↔ FP nc kd pa lo hi (phiP rk ct sa nc g nr) y := by
  constructor
  · rintro ⟨a, b, c⟩
    exact ⟨a, fun r hr hc => by rw [← h r hr]; exact b r hr hc, c⟩
  · rintro ⟨a, b, c⟩
    exact ⟨a, fun r hr hc => by rw [h r hr]; exact b r hr hc, c⟩
set_option maxHeartbeats 4000000 in
set_option maxRecDepth 100000 in
theorem kX7_solve (l : Launch) (D : va_G) (cA : Nat → ClassId) (m : Nat → Nat) (m_nc : Nat) (m_nr : Nat) (m_ke : Int) (m_so : Int) (m_bu : Int) (m_bc : Int) (m_pu : Int) (m_qu : Int) (m_fs : Int) (m_cd : Int) (m_un : Int) (m_hb : Int) (m_pf : Int) (m_ef : Int) (m_kd : Nat → Int) (m_lo : Nat → Int) (m_hi : Nat → Int) (m_co : Nat → Int) (m_pa : Nat → Int) (m_rk : Nat → Int) (m_nu : Nat → Int) (m_ct : Nat → Int) (m_sa : Nat → Int) (m_fr : Nat → Int) (m_cs : Nat → Int) (m_cn : Nat → Int) (m_ck : Nat → Int) (m_ch : Nat → Int) (m_tb : Nat → Int) (m_cr : Nat → Int) (m_fx : Nat → Int) (m_fv : Nat → Int) (m_sn : Nat → Int) (m_be : Nat → Int) (m_tr : Nat → Int) (m_wy : Nat → Int) (v : Int) (hv : -2147483648 ≤ v ∧ v ≤ 2147483647) (hP : colsOk m_nc m_kd m_pa m_lo m_hi) (hpa : ∀ c, c < m_nc → m_pa c = -2000000005 ∨ (0 ≤ m_pa c ∧ m_pa c < (m_nc : Int))) (hle : ∀ c, c < m_nc → m_hi c ≠ NONEz → m_lo c ≤ m_hi c) (qnr : m_nr ≤ 7) (hrk : ∀ j, 0 ≤ m_rk j ∧ m_rk j ≤ 2) (hsa : ∀ j, -9 ≤ m_sa j ∧ m_sa j ≤ 9) (qct : ∀ j, 0 ≤ m_ct j ∧ m_ct j ≤ 1) (hnu : ∀ j, -99 ≤ m_nu j ∧ m_nu j ≤ 99) (hco : ∀ j, -9 ≤ m_co j ∧ m_co j ≤ 9) : CT l yX7_solve wsX7_solve ({ frames := 6, cells := 0, slots := 0, locals := 149 }) D cA [.ref (m 0), iv (v)] (wMO cA m (((m_nc : Nat) : Int)) (((m_nr : Nat) : Int)) (m_ke) (m_so) (m_bu) (m_bc) (m_pu) (m_qu) (m_fs) (m_cd) (m_un) (m_hb) (m_pf) (m_ef) ++ wMP cA m (m_kd) (m_lo) (m_hi) (m_co) (m_pa) (m_rk) (m_nu) (m_ct) (m_sa) ++ wME cA m (m_fr) (m_cs) (m_cn) (m_ck) (m_ch) (m_tb) (m_cr) ++ wMX cA m (m_fx) (m_fv) (m_sn) ++ wMB cA m (m_be) (m_tr) (m_wy)) (fun ov ow => ∃ (a : Int) (ke : Int) (so : Int) (sn : Nat → Int) (fx : Nat → Int) (fv : Nat → Int) (fr : Nat → Int) (fs : Int) (cs : Nat → Int) (cn : Nat → Int) (ck : Nat → Int) (cd : Int) (ch : Nat → Int) (tb : Nat → Int) (cr : Nat → Int) (un : Int) (tr : Nat → Int) (be : Nat → Int) (bc : Int) (bu : Int) (hb : Int) (wy : Nat → Int) (pf : Int) (ef : Int), ((¬ (v = 0 ∨ v = 1) ∧ a = -2000000001 ∧ ke = m_ke ∧ so = m_so ∧ be = m_be ∧ bc = m_bc ∧ bu = m_bu) ∨ ((v = 0 ∨ v = 1) ∧ a = ke ∧ so = m_so + 1 ∧ semP m_nc m_co (FP m_nc (kdS (decide (v = 0)) m_kd) m_pa m_lo m_hi (phiP m_rk m_ct m_sa m_nc (numZ m_nu (-2000000005) 0) m_nr)) (be, bc, bu, ke) ∧ ∀ j, m_nc ≤ j → be j = 0)) ∧ ov = some (iv (a)) ∧ ow = wMO cA m (((m_nc : Nat) : Int)) (((m_nr : Nat) : Int)) (ke) (so) (bu) (bc) (m_pu) (m_qu) (fs) (cd) (un) (hb) (pf) (ef) ++ wMP cA m (m_kd) (m_lo) (m_hi) (m_co) (m_pa) (m_rk) (m_nu) (m_ct) (m_sa) ++ wME cA m (fr) (cs) (cn) (ck) (ch) (tb) (cr) ++ wMX cA m (fx) (fv) (sn) ++ wMB cA m (be) (tr) (wy)) 0 0 := by
  refine CT.mk (cc := cX7_solve) (maxL := 2) (ret := (some .int)) (by decide +kernel) rfl (Nat.le_of_ble_eq_true rfl) ?_
  intro p_ e_ s_ m_ b_ me_ c_ A F hnm hA
  have hV := @IM_P D s_ A
  refine g_lsub ([(0, .ref (m 0)), (1, iv (v))]) [0, 1] rfl ?_
  refine g_iload_n F 1 rfl rfl dX7_solve_0 ?_
  refine g_iconst F dX7_solve_1 ?_
  refine g_iconst F dX7_solve_2 ?_
  refine g_callRS F hV (As := [iv (v), iv (0), iv (1)]) (rest := []) (kX7_isIn l D cA v 0 1 (by omega) (by omega) (by omega)) (va_cwS 3 F.2.2.2.2.1 gX7_solve_X7_isIn rfl rfl rfl (by decide +kernel) ⟨Nat.le_of_ble_eq_true rfl, Nat.le_of_ble_eq_true rfl⟩) [] rfl rfl rfl (Nat.le_of_ble_eq_true rfl) ⟨Nat.le_of_ble_eq_true rfl, Nat.le_of_ble_eq_true rfl⟩ dX7_solve_3 (fun v hv => ?_)
  subst hv
  refine g_eq (st' := [iv (if 0 ≤ v ∧ v ≤ 1 then 1 else 0)]) rfl rfl rfl ?_
  refine g_ifb_ne F (tgt := 12) dX7_solve_6 (by decide) (fun c_1 => ?_) (fun c_1 => ?_)
  · skip
    refine g_aload_n F 0 rfl rfl dX7_solve_12 ?_
    refine g_callV F (As := []) (rest := []) (wr := wME cA m (m_fr) (m_cs) (m_cn) (m_ck) (m_ch) (m_tb) (m_cr) ++ wMB cA m (m_be) (m_tr) (m_wy)) (kX7_takeNumbers l D cA m m_nc m_nr m_ke m_so m_bu m_bc m_pu m_qu m_fs m_cd m_un m_hb m_pf m_ef m_kd m_lo m_hi m_co m_pa m_rk m_nu m_ct m_sa m_fx m_fv m_sn (qnr)) (cwV 0 F.2.2.2.2.1 gX7_solve_X7_takeNumbers rfl rfl rfl (by decide +kernel) ⟨Nat.le_of_ble_eq_true rfl, Nat.le_of_ble_eq_true rfl⟩) rfl rfl (q0 := 0) rfl [0, 1, 2, 3, 4, 5, 6, 7, 8, 9, 17, 18, 19] [10, 11, 12, 13, 14, 15, 16, 20, 21, 22] rfl rfl (by decide) (by decide) (by decide) rfl rfl (Nat.le_of_ble_eq_true rfl) ⟨Nat.le_of_ble_eq_true rfl, Nat.le_of_ble_eq_true rfl⟩ hA dX7_solve_13 (fun v w hv => ?_)
    obtain ⟨hv, hw⟩ := hv
    subst hv
    subst hw
    refine g_wsub (wMO cA m (((m_nc : Nat) : Int)) (((m_nr : Nat) : Int)) (m_ke) (m_so) (m_bu) (m_bc) (m_pu) (m_qu) (m_fs) (m_cd) (m_un) (m_hb) (m_pf) (m_ef) ++ wMP cA m (m_kd) (m_lo) (m_hi) (m_co) (m_pa) (m_rk) (m_nu) (m_ct) (m_sa) ++ wME cA m (m_fr) (m_cs) (m_cn) (m_ck) (m_ch) (m_tb) (m_cr) ++ wMX cA m (m_fx) (m_fv) (mixZ m_nu m_sn m_nr) ++ wMB cA m (m_be) (m_tr) (m_wy)) [10, 11, 12, 13, 14, 15, 16, 17, 18, 19, 0, 1, 2, 3, 4, 5, 6, 20, 21, 22, 7, 8, 9] (by decide) rfl ?_
    refine g_eq (st' := []) rfl rfl rfl ?_
    refine g_aload_n F 0 rfl rfl dX7_solve_16 ?_
    refine g_iload_n F 1 rfl rfl dX7_solve_17 ?_
    refine g_if_ne F (tgt := 25) dX7_solve_18 (by decide) ⟨by omega, by omega⟩ (fun c_2 => ?_) (fun c_2 => ?_)
    · skip
      refine g_iconst F dX7_solve_25 ?_
      refine g_callV F (As := [iv (0)]) (rest := []) (wr := []) (kX7_search l D cA m m_nc m_nr m_ke m_so m_bu m_bc m_pu m_qu m_fs m_cd m_un m_hb m_pf m_ef m_kd m_lo m_hi m_co m_pa m_rk m_nu m_ct m_sa m_fr m_cs m_cn m_ck m_ch m_tb m_cr m_fx m_fv (mixZ m_nu m_sn m_nr) m_be m_tr m_wy False inferInstance (hP) (hpa) (hle) (qnr) (hrk) (hsa) (qct) (fun j hj => by rw [mix_lt hj]; have := hnu j; omega) (hco)) (cwV 1 F.2.2.2.2.1 gX7_solve_X7_search rfl rfl rfl (by decide +kernel) ⟨Nat.le_of_ble_eq_true rfl, Nat.le_of_ble_eq_true rfl⟩) rfl rfl (q0 := 0) rfl [0, 1, 2, 3, 4, 5, 6, 7, 8, 9, 10, 11, 12, 13, 14, 15, 16, 17, 18, 19, 20, 21, 22] [] rfl rfl (by decide) (by decide) (by decide) rfl rfl (Nat.le_of_ble_eq_true rfl) ⟨Nat.le_of_ble_eq_true rfl, Nat.le_of_ble_eq_true rfl⟩ hA dX7_solve_26 (fun v w hv => ?_)
      obtain ⟨ke9, fx9, fv9, fr9, fs9, cs9, cn9, ck9, cd9, ch9, tb9, cr9, un9, tr9, be9, bc9, bu9, hb9, wy9, pf9, ef9, hs9, hv, hw⟩ := hv
      subst hv
      subst hw
      refine g_wsub (wMO cA m (((m_nc : Nat) : Int)) (((m_nr : Nat) : Int)) (ke9) (m_so + 1) (bu9) (bc9) (m_pu) (m_qu) (fs9) (cd9) (un9) (hb9) (pf9) (ef9) ++ wMP cA m (m_kd) (m_lo) (m_hi) (m_co) (m_pa) (m_rk) (m_nu) (m_ct) (m_sa) ++ wME cA m (fr9) (cs9) (cn9) (ck9) (ch9) (tb9) (cr9) ++ wMX cA m (fx9) (fv9) (mixZ m_nu m_sn m_nr) ++ wMB cA m (be9) (tr9) (wy9)) [0, 1, 2, 3, 4, 5, 6, 7, 8, 9, 10, 11, 12, 13, 14, 15, 16, 17, 18, 19, 20, 21, 22] (by decide) rfl ?_
      refine g_eq (st' := [iv (ke9)]) rfl rfl rfl ?_
      exact g_zret F rfl rfl (by decide) (by decide) ⟨ke9, ke9, (m_so + 1), (mixZ m_nu m_sn m_nr), fx9, fv9, fr9, fs9, cs9, cn9, ck9, cd9, ch9, tb9, cr9, un9, tr9, be9, bc9, bu9, hb9, wy9, pf9, ef9, (Or.inr ⟨by omega, rfl, rfl, by rw [decide_eq_false (show ¬ v = 0 by omega)]; exact sem_iff (fun y => FP_num (fun r hr => by rw [mix_lt hr]; show m_nu r = m_nu r + (if (r : Int) = -2000000005 then 0 else 0); rw [if_neg (by omega)]; omega) y) hs9.1, hs9.2⟩), congrArg (fun z => some (iv z)) (show (ke9 : Int) = ke9 by rfl), rfl⟩ dX7_solve_29
    · skip
      refine g_iconst F dX7_solve_21 ?_
      refine g_goto F (tgt := 26) dX7_solve_22 (by decide) ?_
      refine g_callV F (As := [iv (1)]) (rest := []) (wr := []) (kX7_search l D cA m m_nc m_nr m_ke m_so m_bu m_bc m_pu m_qu m_fs m_cd m_un m_hb m_pf m_ef m_kd m_lo m_hi m_co m_pa m_rk m_nu m_ct m_sa m_fr m_cs m_cn m_ck m_ch m_tb m_cr m_fx m_fv (mixZ m_nu m_sn m_nr) m_be m_tr m_wy True inferInstance (hP) (hpa) (hle) (qnr) (hrk) (hsa) (qct) (fun j hj => by rw [mix_lt hj]; have := hnu j; omega) (hco)) (cwV 1 F.2.2.2.2.1 gX7_solve_X7_search rfl rfl rfl (by decide +kernel) ⟨Nat.le_of_ble_eq_true rfl, Nat.le_of_ble_eq_true rfl⟩) rfl rfl (q0 := 0) rfl [0, 1, 2, 3, 4, 5, 6, 7, 8, 9, 10, 11, 12, 13, 14, 15, 16, 17, 18, 19, 20, 21, 22] [] rfl rfl (by decide) (by decide) (by decide) rfl rfl (Nat.le_of_ble_eq_true rfl) ⟨Nat.le_of_ble_eq_true rfl, Nat.le_of_ble_eq_true rfl⟩ hA dX7_solve_26 (fun v w hv => ?_)
      obtain ⟨ke9, fx9, fv9, fr9, fs9, cs9, cn9, ck9, cd9, ch9, tb9, cr9, un9, tr9, be9, bc9, bu9, hb9, wy9, pf9, ef9, hs9, hv, hw⟩ := hv
      subst hv
      subst hw
      refine g_wsub (wMO cA m (((m_nc : Nat) : Int)) (((m_nr : Nat) : Int)) (ke9) (m_so + 1) (bu9) (bc9) (m_pu) (m_qu) (fs9) (cd9) (un9) (hb9) (pf9) (ef9) ++ wMP cA m (m_kd) (m_lo) (m_hi) (m_co) (m_pa) (m_rk) (m_nu) (m_ct) (m_sa) ++ wME cA m (fr9) (cs9) (cn9) (ck9) (ch9) (tb9) (cr9) ++ wMX cA m (fx9) (fv9) (mixZ m_nu m_sn m_nr) ++ wMB cA m (be9) (tr9) (wy9)) [0, 1, 2, 3, 4, 5, 6, 7, 8, 9, 10, 11, 12, 13, 14, 15, 16, 17, 18, 19, 20, 21, 22] (by decide) rfl ?_
      refine g_eq (st' := [iv (ke9)]) rfl rfl rfl ?_
      exact g_zret F rfl rfl (by decide) (by decide) ⟨ke9, ke9, (m_so + 1), (mixZ m_nu m_sn m_nr), fx9, fv9, fr9, fs9, cs9, cn9, ck9, cd9, ch9, tb9, cr9, un9, tr9, be9, bc9, bu9, hb9, wy9, pf9, ef9, (Or.inr ⟨by omega, rfl, rfl, by rw [decide_eq_true (show v = 0 by omega)]; exact sem_iff (fun y => FP_num (fun r hr => by rw [mix_lt hr]; show m_nu r = m_nu r + (if (r : Int) = -2000000005 then 0 else 0); rw [if_neg (by omega)]; omega) y) hs9.1, hs9.2⟩), congrArg (fun z => some (iv z)) (show (ke9 : Int) = ke9 by rfl), rfl⟩ dX7_solve_29
  · skip
    refine g_ldc F (-2000000001) (by decide) (List.mem_of_getElem? (i := 1) rfl) dX7_solve_9 ?_
    exact g_zret F rfl rfl (by decide) (by decide) ⟨(-2000000001), m_ke, m_so, m_sn, m_fx, m_fv, m_fr, m_fs, m_cs, m_cn, m_ck, m_cd, m_ch, m_tb, m_cr, m_un, m_tr, m_be, m_bc, m_bu, m_hb, m_wy, m_pf, m_ef, (Or.inl ⟨by omega, rfl, rfl, rfl, rfl, rfl, rfl⟩), congrArg (fun z => some (iv z)) (show (-2000000001 : Int) = (-2000000001) by rfl), rfl⟩ dX7_solve_11

set_option maxHeartbeats 4000000 in
set_option maxRecDepth 100000 in
theorem kX7_worth (l : Launch) (D : va_G) (cA : Nat → ClassId) (m : Nat → Nat) (m_nc : Nat) (m_nr : Nat) (m_ke : Int) (m_so : Int) (m_bu : Int) (m_bc : Int) (m_pu : Int) (m_qu : Int) (m_fs : Int) (m_cd : Int) (m_un : Int) (m_hb : Int) (m_pf : Int) (m_ef : Int) (m_kd : Nat → Int) (m_lo : Nat → Int) (m_hi : Nat → Int) (m_co : Nat → Int) (m_pa : Nat → Int) (m_rk : Nat → Int) (m_nu : Nat → Int) (m_ct : Nat → Int) (m_sa : Nat → Int) (m_fr : Nat → Int) (m_cs : Nat → Int) (m_cn : Nat → Int) (m_ck : Nat → Int) (m_ch : Nat → Int) (m_tb : Nat → Int) (m_cr : Nat → Int) (m_fx : Nat → Int) (m_fv : Nat → Int) (m_sn : Nat → Int) (m_be : Nat → Int) (m_tr : Nat → Int) (m_wy : Nat → Int) (c : Int) (v : Int) (w : Int) (hc : -2147483648 ≤ c ∧ c ≤ 2147483647) (hv : -2147483648 ≤ v ∧ v ≤ 2147483647) (hw : -2147483648 ≤ w ∧ w ≤ 2147483647) (hP : colsOk m_nc m_kd m_pa m_lo m_hi) (hpa : ∀ c, c < m_nc → m_pa c = -2000000005 ∨ (0 ≤ m_pa c ∧ m_pa c < (m_nc : Int))) (hle : ∀ c, c < m_nc → m_hi c ≠ NONEz → m_lo c ≤ m_hi c) (qnr : m_nr ≤ 7) (hrk : ∀ j, 0 ≤ m_rk j ∧ m_rk j ≤ 2) (hsa : ∀ j, -9 ≤ m_sa j ∧ m_sa j ≤ 9) (qct : ∀ j, 0 ≤ m_ct j ∧ m_ct j ≤ 1) (hnu : ∀ j, -99 ≤ m_nu j ∧ m_nu j ≤ 99) (hco : ∀ j, -9 ≤ m_co j ∧ m_co j ≤ 9) : CT l yX7_worth wsX7_worth ({ frames := 6, cells := 0, slots := 0, locals := 149 }) D cA [.ref (m 0), iv (c), iv (v), iv (w)] (wMO cA m (((m_nc : Nat) : Int)) (((m_nr : Nat) : Int)) (m_ke) (m_so) (m_bu) (m_bc) (m_pu) (m_qu) (m_fs) (m_cd) (m_un) (m_hb) (m_pf) (m_ef) ++ wMP cA m (m_kd) (m_lo) (m_hi) (m_co) (m_pa) (m_rk) (m_nu) (m_ct) (m_sa) ++ wME cA m (m_fr) (m_cs) (m_cn) (m_ck) (m_ch) (m_tb) (m_cr) ++ wMX cA m (m_fx) (m_fv) (m_sn) ++ wMB cA m (m_be) (m_tr) (m_wy)) (fun ov ow => ∃ (a : Int) (ke : Int) (so : Int) (sn : Nat → Int) (fx : Nat → Int) (fv : Nat → Int) (fr : Nat → Int) (fs : Int) (cs : Nat → Int) (cn : Nat → Int) (ck : Nat → Int) (cd : Int) (ch : Nat → Int) (tb : Nat → Int) (cr : Nat → Int) (un : Int) (tr : Nat → Int) (be : Nat → Int) (bc : Int) (bu : Int) (hb : Int) (wy : Nat → Int) (pf : Int) (ef : Int), ((¬ ((0 ≤ c ∧ c < (m_nr : Int)) ∧ (-99 ≤ v ∧ v ≤ 99) ∧ (w = 0 ∨ w = 1)) ∧ a = -2000000001 ∧ ke = m_ke ∧ so = m_so ∧ be = m_be ∧ bc = m_bc ∧ bu = m_bu) ∨ (((0 ≤ c ∧ c < (m_nr : Int)) ∧ (-99 ≤ v ∧ v ≤ 99) ∧ (w = 0 ∨ w = 1)) ∧ a = ke ∧ so = m_so + 1 ∧ semP m_nc m_co (FP m_nc (kdS (decide (w = 0)) m_kd) m_pa m_lo m_hi (phiP m_rk m_ct m_sa m_nc (numZ m_nu c v) m_nr)) (be, bc, bu, ke) ∧ ∀ j, m_nc ≤ j → be j = 0)) ∧ ov = some (iv (a)) ∧ ow = wMO cA m (((m_nc : Nat) : Int)) (((m_nr : Nat) : Int)) (ke) (so) (bu) (bc) (m_pu) (m_qu) (fs) (cd) (un) (hb) (pf) (ef) ++ wMP cA m (m_kd) (m_lo) (m_hi) (m_co) (m_pa) (m_rk) (m_nu) (m_ct) (m_sa) ++ wME cA m (fr) (cs) (cn) (ck) (ch) (tb) (cr) ++ wMX cA m (fx) (fv) (sn) ++ wMB cA m (be) (tr) (wy)) 0 0 := by
  refine CT.mk (cc := cX7_worth) (maxL := 4) (ret := (some .int)) (by decide +kernel) rfl (Nat.le_of_ble_eq_true rfl) ?_
  intro p_ e_ s_ m_ b_ me_ c_ A F hnm hA
  have hV := @IM_P D s_ A
  have iX7 : ∀ w ∈ u_ws RX7 TX7 38, w ∈ wsX7_worth := by decide +kernel
  have qnc := hP.1
  refine g_lsub ([(0, .ref (m 0)), (1, iv (c)), (2, iv (v)), (3, iv (w))]) [0, 1, 2, 3] rfl ?_
  refine g_aload_n F 0 rfl rfl dX7_worth_0 ?_
  refine g_iload_n F 1 rfl rfl dX7_worth_1 ?_
  refine g_callRV F hV (As := [iv (c)]) (rest := []) (kX7_isRow l D cA m m_nc m_nr m_ke m_so m_bu m_bc m_pu m_qu m_fs m_cd m_un m_hb m_pf m_ef c (by omega) (qnr)) (cwV 1 F.2.2.2.2.1 gX7_worth_X7_isRow rfl rfl rfl (by decide +kernel) ⟨Nat.le_of_ble_eq_true rfl, Nat.le_of_ble_eq_true rfl⟩) rfl rfl (q0 := 0) rfl [0] rfl rfl rfl (Nat.le_of_ble_eq_true rfl) ⟨Nat.le_of_ble_eq_true rfl, Nat.le_of_ble_eq_true rfl⟩ dX7_worth_2 (fun v hv => ?_)
  subst hv
  refine g_eq (st' := [iv (if 0 ≤ c ∧ c < (m_nr : Int) then 1 else 0)]) rfl rfl rfl ?_
  refine g_ifb_eq F (tgt := 28) dX7_worth_5 (by decide) (fun c_1 => ?_) (fun c_1 => ?_)
  · skip
    refine g_ldc F (-2000000001) (by decide) (List.mem_of_getElem? (i := 1) rfl) dX7_worth_28 ?_
    exact g_zret F rfl rfl (by decide) (by decide) ⟨(-2000000001), m_ke, m_so, m_sn, m_fx, m_fv, m_fr, m_fs, m_cs, m_cn, m_ck, m_cd, m_ch, m_tb, m_cr, m_un, m_tr, m_be, m_bc, m_bu, m_hb, m_wy, m_pf, m_ef, (Or.inl ⟨by omega, rfl, rfl, rfl, rfl, rfl, rfl⟩), congrArg (fun z => some (iv z)) (show (-2000000001 : Int) = (-2000000001) by rfl), rfl⟩ dX7_worth_30
  · skip
    obtain ⟨cn, hcn⟩ : ∃ y : Nat, c = (y : Int) := ⟨c.toNat, by omega⟩
    subst hcn
    refine g_iload_n F 2 rfl rfl dX7_worth_8 ?_
    refine g_bipush F dX7_worth_9 (by decide) ?_
    refine g_bipush F dX7_worth_11 (by decide) ?_
    refine g_callRS F hV (As := [iv (v), iv (-99), iv (99)]) (rest := []) (kX7_isIn l D cA v (-99) 99 (by omega) (by omega) (by omega)) (va_cwS 3 F.2.2.2.2.1 gX7_worth_X7_isIn rfl rfl rfl (by decide +kernel) ⟨Nat.le_of_ble_eq_true rfl, Nat.le_of_ble_eq_true rfl⟩) [] rfl rfl rfl (Nat.le_of_ble_eq_true rfl) ⟨Nat.le_of_ble_eq_true rfl, Nat.le_of_ble_eq_true rfl⟩ dX7_worth_13 (fun v hv => ?_)
    subst hv
    refine g_eq (st' := [iv (if (-99) ≤ v ∧ v ≤ 99 then 1 else 0)]) rfl rfl rfl ?_
    refine g_ifb_eq F (tgt := 28) dX7_worth_16 (by decide) (fun c_2 => ?_) (fun c_2 => ?_)
    · skip
      refine g_ldc F (-2000000001) (by decide) (List.mem_of_getElem? (i := 1) rfl) dX7_worth_28 ?_
      exact g_zret F rfl rfl (by decide) (by decide) ⟨(-2000000001), m_ke, m_so, m_sn, m_fx, m_fv, m_fr, m_fs, m_cs, m_cn, m_ck, m_cd, m_ch, m_tb, m_cr, m_un, m_tr, m_be, m_bc, m_bu, m_hb, m_wy, m_pf, m_ef, (Or.inl ⟨by omega, rfl, rfl, rfl, rfl, rfl, rfl⟩), congrArg (fun z => some (iv z)) (show (-2000000001 : Int) = (-2000000001) by rfl), rfl⟩ dX7_worth_30
    · skip
      refine g_iload_n F 3 rfl rfl dX7_worth_19 ?_
      refine g_iconst F dX7_worth_20 ?_
      refine g_iconst F dX7_worth_21 ?_
      refine g_callRS F hV (As := [iv (w), iv (0), iv (1)]) (rest := []) (kX7_isIn l D cA w 0 1 (by omega) (by omega) (by omega)) (va_cwS 3 F.2.2.2.2.1 gX7_worth_X7_isIn rfl rfl rfl (by decide +kernel) ⟨Nat.le_of_ble_eq_true rfl, Nat.le_of_ble_eq_true rfl⟩) [] rfl rfl rfl (Nat.le_of_ble_eq_true rfl) ⟨Nat.le_of_ble_eq_true rfl, Nat.le_of_ble_eq_true rfl⟩ dX7_worth_22 (fun v hv => ?_)
      subst hv
      refine g_eq (st' := [iv (if 0 ≤ w ∧ w ≤ 1 then 1 else 0)]) rfl rfl rfl ?_
      refine g_ifb_ne F (tgt := 31) dX7_worth_25 (by decide) (fun c_3 => ?_) (fun c_3 => ?_)
      · skip
        refine g_aload_n F 0 rfl rfl dX7_worth_31 ?_
        refine g_callV F (As := []) (rest := []) (wr := wME cA m (m_fr) (m_cs) (m_cn) (m_ck) (m_ch) (m_tb) (m_cr) ++ wMB cA m (m_be) (m_tr) (m_wy)) (kX7_takeNumbers l D cA m m_nc m_nr m_ke m_so m_bu m_bc m_pu m_qu m_fs m_cd m_un m_hb m_pf m_ef m_kd m_lo m_hi m_co m_pa m_rk m_nu m_ct m_sa m_fx m_fv m_sn (qnr)) (cwV 0 F.2.2.2.2.1 gX7_worth_X7_takeNumbers rfl rfl rfl (by decide +kernel) ⟨Nat.le_of_ble_eq_true rfl, Nat.le_of_ble_eq_true rfl⟩) rfl rfl (q0 := 0) rfl [0, 1, 2, 3, 4, 5, 6, 7, 8, 9, 17, 18, 19] [10, 11, 12, 13, 14, 15, 16, 20, 21, 22] rfl rfl (by decide) (by decide) (by decide) rfl rfl (Nat.le_of_ble_eq_true rfl) ⟨Nat.le_of_ble_eq_true rfl, Nat.le_of_ble_eq_true rfl⟩ hA dX7_worth_32 (fun v w hv => ?_)
        obtain ⟨hv, hw⟩ := hv
        subst hv
        subst hw
        refine g_wsub (wMO cA m (((m_nc : Nat) : Int)) (((m_nr : Nat) : Int)) (m_ke) (m_so) (m_bu) (m_bc) (m_pu) (m_qu) (m_fs) (m_cd) (m_un) (m_hb) (m_pf) (m_ef) ++ wMP cA m (m_kd) (m_lo) (m_hi) (m_co) (m_pa) (m_rk) (m_nu) (m_ct) (m_sa) ++ wME cA m (m_fr) (m_cs) (m_cn) (m_ck) (m_ch) (m_tb) (m_cr) ++ wMX cA m (m_fx) (m_fv) (mixZ m_nu m_sn m_nr) ++ wMB cA m (m_be) (m_tr) (m_wy)) [10, 11, 12, 13, 14, 15, 16, 17, 18, 19, 0, 1, 2, 3, 4, 5, 6, 20, 21, 22, 7, 8, 9] (by decide) rfl ?_
        refine g_eq (st' := []) rfl rfl rfl ?_
        refine g_aload_n F 0 rfl rfl dX7_worth_35 ?_
        refine g_get F hV iX7 0 rfl rfl 32 (by decide) (List.mem_of_getElem? (i := 2) rfl) rfl dX7_worth_36 ?_
        refine g_iload_n F 1 rfl rfl dX7_worth_39 ?_
        refine g_dup2 F rfl rfl dX7_worth_40 ?_
        refine g_iald F hV 19 rfl (cn) (by omega) (by omega) (by decide) dX7_worth_41 ?_
        refine g_iload_n F 2 rfl rfl dX7_worth_42 ?_
        refine g_iadd F dX7_worth_43 ?_
        refine g_iast F 19 rfl (cn) (by omega) (by omega) (by decide) (wMO cA m (((m_nc : Nat) : Int)) (((m_nr : Nat) : Int)) (m_ke) (m_so) (m_bu) (m_bc) (m_pu) (m_qu) (m_fs) (m_cd) (m_un) (m_hb) (m_pf) (m_ef) ++ wMP cA m (m_kd) (m_lo) (m_hi) (m_co) (m_pa) (m_rk) (m_nu) (m_ct) (m_sa) ++ wME cA m (m_fr) (m_cs) (m_cn) (m_ck) (m_ch) (m_tb) (m_cr) ++ wMX cA m (m_fx) (m_fv) (va_up (mixZ m_nu m_sn m_nr) cn (((mixZ m_nu m_sn m_nr) cn) + v)) ++ wMB cA m (m_be) (m_tr) (m_wy)) rfl dX7_worth_44 ?_
        refine g_aload_n F 0 rfl rfl dX7_worth_45 ?_
        refine g_iload_n F 3 rfl rfl dX7_worth_46 ?_
        refine g_if_ne F (tgt := 54) dX7_worth_47 (by decide) ⟨by omega, by omega⟩ (fun c_4 => ?_) (fun c_4 => ?_)
        · skip
          refine g_iconst F dX7_worth_54 ?_
          refine g_callV F (As := [iv (0)]) (rest := []) (wr := []) (kX7_search l D cA m m_nc m_nr m_ke m_so m_bu m_bc m_pu m_qu m_fs m_cd m_un m_hb m_pf m_ef m_kd m_lo m_hi m_co m_pa m_rk m_nu m_ct m_sa m_fr m_cs m_cn m_ck m_ch m_tb m_cr m_fx m_fv (va_up (mixZ m_nu m_sn m_nr) cn (((mixZ m_nu m_sn m_nr) cn) + v)) m_be m_tr m_wy False inferInstance (hP) (hpa) (hle) (qnr) (hrk) (hsa) (qct) (fun j hj => by have h9 := hnu j; by_cases e : j = cn; (subst e; rw [up_same, mix_lt hj]; omega); (rw [up_ne e, mix_lt hj]; omega)) (hco)) (cwV 1 F.2.2.2.2.1 gX7_worth_X7_search rfl rfl rfl (by decide +kernel) ⟨Nat.le_of_ble_eq_true rfl, Nat.le_of_ble_eq_true rfl⟩) rfl rfl (q0 := 0) rfl [0, 1, 2, 3, 4, 5, 6, 7, 8, 9, 10, 11, 12, 13, 14, 15, 16, 17, 18, 19, 20, 21, 22] [] rfl rfl (by decide) (by decide) (by decide) rfl rfl (Nat.le_of_ble_eq_true rfl) ⟨Nat.le_of_ble_eq_true rfl, Nat.le_of_ble_eq_true rfl⟩ hA dX7_worth_55 (fun v w hv => ?_)
          obtain ⟨ke9, fx9, fv9, fr9, fs9, cs9, cn9, ck9, cd9, ch9, tb9, cr9, un9, tr9, be9, bc9, bu9, hb9, wy9, pf9, ef9, hs9, hv, hw⟩ := hv
          subst hv
          subst hw
          refine g_wsub (wMO cA m (((m_nc : Nat) : Int)) (((m_nr : Nat) : Int)) (ke9) (m_so + 1) (bu9) (bc9) (m_pu) (m_qu) (fs9) (cd9) (un9) (hb9) (pf9) (ef9) ++ wMP cA m (m_kd) (m_lo) (m_hi) (m_co) (m_pa) (m_rk) (m_nu) (m_ct) (m_sa) ++ wME cA m (fr9) (cs9) (cn9) (ck9) (ch9) (tb9) (cr9) ++ wMX cA m (fx9) (fv9) (va_up (mixZ m_nu m_sn m_nr) cn (((mixZ m_nu m_sn m_nr) cn) + v)) ++ wMB cA m (be9) (tr9) (wy9)) [0, 1, 2, 3, 4, 5, 6, 7, 8, 9, 10, 11, 12, 13, 14, 15, 16, 17, 18, 19, 20, 21, 22] (by decide) rfl ?_
          refine g_eq (st' := [iv (ke9)]) rfl rfl rfl ?_
          exact g_zret F rfl rfl (by decide) (by decide) ⟨ke9, ke9, (m_so + 1), (va_up (mixZ m_nu m_sn m_nr) cn (((mixZ m_nu m_sn m_nr) cn) + v)), fx9, fv9, fr9, fs9, cs9, cn9, ck9, cd9, ch9, tb9, cr9, un9, tr9, be9, bc9, bu9, hb9, wy9, pf9, ef9, (Or.inr ⟨by omega, rfl, rfl, by rw [decide_eq_false (show ¬ w = 0 by omega)]; exact sem_iff (fun y => FP_num (fun r hr => by show va_up (mixZ m_nu m_sn m_nr) cn ((mixZ m_nu m_sn m_nr) cn + v) r = m_nu r + (if (r : Int) = ((cn : Nat) : Int) then v else 0); by_cases e : r = cn; (subst e; rw [up_same, if_pos rfl, mix_lt hr]); (rw [up_ne e, if_neg (by omega), mix_lt hr]; omega)) y) hs9.1, hs9.2⟩), congrArg (fun z => some (iv z)) (show (ke9 : Int) = ke9 by rfl), rfl⟩ dX7_worth_58
        · skip
          refine g_iconst F dX7_worth_50 ?_
          refine g_goto F (tgt := 55) dX7_worth_51 (by decide) ?_
          refine g_callV F (As := [iv (1)]) (rest := []) (wr := []) (kX7_search l D cA m m_nc m_nr m_ke m_so m_bu m_bc m_pu m_qu m_fs m_cd m_un m_hb m_pf m_ef m_kd m_lo m_hi m_co m_pa m_rk m_nu m_ct m_sa m_fr m_cs m_cn m_ck m_ch m_tb m_cr m_fx m_fv (va_up (mixZ m_nu m_sn m_nr) cn (((mixZ m_nu m_sn m_nr) cn) + v)) m_be m_tr m_wy True inferInstance (hP) (hpa) (hle) (qnr) (hrk) (hsa) (qct) (fun j hj => by have h9 := hnu j; by_cases e : j = cn; (subst e; rw [up_same, mix_lt hj]; omega); (rw [up_ne e, mix_lt hj]; omega)) (hco)) (cwV 1 F.2.2.2.2.1 gX7_worth_X7_search rfl rfl rfl (by decide +kernel) ⟨Nat.le_of_ble_eq_true rfl, Nat.le_of_ble_eq_true rfl⟩) rfl rfl (q0 := 0) rfl [0, 1, 2, 3, 4, 5, 6, 7, 8, 9, 10, 11, 12, 13, 14, 15, 16, 17, 18, 19, 20, 21, 22] [] rfl rfl (by decide) (by decide) (by decide) rfl rfl (Nat.le_of_ble_eq_true rfl) ⟨Nat.le_of_ble_eq_true rfl, Nat.le_of_ble_eq_true rfl⟩ hA dX7_worth_55 (fun v w hv => ?_)
          obtain ⟨ke9, fx9, fv9, fr9, fs9, cs9, cn9, ck9, cd9, ch9, tb9, cr9, un9, tr9, be9, bc9, bu9, hb9, wy9, pf9, ef9, hs9, hv, hw⟩ := hv
          subst hv
          subst hw
          refine g_wsub (wMO cA m (((m_nc : Nat) : Int)) (((m_nr : Nat) : Int)) (ke9) (m_so + 1) (bu9) (bc9) (m_pu) (m_qu) (fs9) (cd9) (un9) (hb9) (pf9) (ef9) ++ wMP cA m (m_kd) (m_lo) (m_hi) (m_co) (m_pa) (m_rk) (m_nu) (m_ct) (m_sa) ++ wME cA m (fr9) (cs9) (cn9) (ck9) (ch9) (tb9) (cr9) ++ wMX cA m (fx9) (fv9) (va_up (mixZ m_nu m_sn m_nr) cn (((mixZ m_nu m_sn m_nr) cn) + v)) ++ wMB cA m (be9) (tr9) (wy9)) [0, 1, 2, 3, 4, 5, 6, 7, 8, 9, 10, 11, 12, 13, 14, 15, 16, 17, 18, 19, 20, 21, 22] (by decide) rfl ?_
          refine g_eq (st' := [iv (ke9)]) rfl rfl rfl ?_
          exact g_zret F rfl rfl (by decide) (by decide) ⟨ke9, ke9, (m_so + 1), (va_up (mixZ m_nu m_sn m_nr) cn (((mixZ m_nu m_sn m_nr) cn) + v)), fx9, fv9, fr9, fs9, cs9, cn9, ck9, cd9, ch9, tb9, cr9, un9, tr9, be9, bc9, bu9, hb9, wy9, pf9, ef9, (Or.inr ⟨by omega, rfl, rfl, by rw [decide_eq_true (show w = 0 by omega)]; exact sem_iff (fun y => FP_num (fun r hr => by show va_up (mixZ m_nu m_sn m_nr) cn ((mixZ m_nu m_sn m_nr) cn + v) r = m_nu r + (if (r : Int) = ((cn : Nat) : Int) then v else 0); by_cases e : r = cn; (subst e; rw [up_same, if_pos rfl, mix_lt hr]); (rw [up_ne e, if_neg (by omega), mix_lt hr]; omega)) y) hs9.1, hs9.2⟩), congrArg (fun z => some (iv z)) (show (ke9 : Int) = ke9 by rfl), rfl⟩ dX7_worth_58
      · skip
        refine g_ldc F (-2000000001) (by decide) (List.mem_of_getElem? (i := 1) rfl) dX7_worth_28 ?_
        exact g_zret F rfl rfl (by decide) (by decide) ⟨(-2000000001), m_ke, m_so, m_sn, m_fx, m_fv, m_fr, m_fs, m_cs, m_cn, m_ck, m_cd, m_ch, m_tb, m_cr, m_un, m_tr, m_be, m_bc, m_bu, m_hb, m_wy, m_pf, m_ef, (Or.inl ⟨by omega, rfl, rfl, rfl, rfl, rfl, rfl⟩), congrArg (fun z => some (iv z)) (show (-2000000001 : Int) = (-2000000001) by rfl), rfl⟩ dX7_worth_30
