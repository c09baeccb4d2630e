set_option maxHeartbeats 4000000 in
set_option maxRecDepth 100000 in
theorem kX6_quarrel (l : Launch) (D : va_G) (cA : Nat → ClassId) (x : Nat → Nat) (x_ba x_sa x_ha : Nat) (x_so : Int) (q t : Nat → Nat) (pl pc : Nat → Int) (S : TS) (n1 : Nat) (a : Nat → Nat) (a_kd a_lo a_hi a_co a_pa a_rk a_nu a_ct a_sa : Nat → Int) (a_nc a_nr : Nat) (hP : colsOk a_nc a_kd a_pa a_lo a_hi) (hco : ∀ j, -9 ≤ a_co j ∧ a_co j ≤ 9) (hR : rowsOk a_nr a_rk a_nu a_ct a_sa) (hS : staleT S) (hz : ∀ n, pc n = 0 ∨ pc n = 1) :
    CT l yX6_quarrel wsX6_quarrel ({ frames := 6, cells := 0, slots := 0, locals := 160 }) D cA [.ref (x 0)] (wC cA x (a 0) x_ba x_sa (q 0) x_ha x_so ++ (wQ cA q (t 0) pl pc ++ wTS cA t n1 (S) ++ wP cA a a_kd a_lo a_hi a_co a_pa a_rk a_nu a_ct a_sa ((a_nc : Nat) : Int) ((a_nr : Nat) : Int))) (fun ov ow => ∃ (S' : TS) (pl' pc' : Nat → Int) (n : Nat), ov = some (iv ((n : Nat) : Int)) ∧ quarP (peaceP a_rk a_nu a_sa a_lo a_hi a_nc a_nr) (setZ a_ct a_nr) n ∧ staleT S' ∧ (∀ n, pc' n = 0 ∨ pc' n = 1) ∧ ow = wC cA x (a 0) x_ba x_sa (q 0) x_ha x_so ++ (wQ cA q (t 0) pl' pc' ++ wTS cA t a_nc (S') ++ wP cA a a_kd a_lo a_hi a_co a_pa a_rk a_nu a_ct a_sa ((a_nc : Nat) : Int) ((a_nr : Nat) : Int))) 0 0 := by
  refine CT.mk (cc := cX6_quarrel) (maxL := 1) (ret := (some .int)) (by decide +kernel) rfl (Nat.le_of_ble_eq_true rfl) ?_
  intro p_ e_ s_ m_ b_ me_ c_ A F hnm hA
  have hV := @IM_P D s_ A
  have iX6 : ∀ w ∈ u_ws RX6 TX6 6, w ∈ wsX6_quarrel := by decide +kernel
  refine g_lsub ([(0, .ref (x 0))]) [0] rfl ?_
  refine g_aload_n F 0 rfl rfl dX6_quarrel_0 ?_
  refine g_get F hV iX6 0 rfl rfl 3 (by decide) (List.mem_of_getElem? (i := 1) rfl) rfl dX6_quarrel_1 ?_
  refine g_aload_n F 0 rfl rfl dX6_quarrel_4 ?_
  refine g_get F hV iX6 0 rfl rfl 0 (by decide) (List.mem_of_getElem? (i := 2) rfl) rfl dX6_quarrel_5 ?_
  refine g_callVP F (As := [.ref (a 0)]) (rest := []) (wr := wC cA x (a 0) x_ba x_sa (q 0) x_ha x_so) (kX3_smallest l D cA q t pl pc S n1 a a_kd a_lo a_hi a_co a_pa a_rk a_nu a_ct a_sa a_nc a_nr hP hco hR hS hz) (cwV 1 F.2.2.2.2.1 gX6_quarrel_X3_smallest rfl rfl rfl (by decide +kernel) ⟨(Nat.le_of_ble_eq_true rfl), (Nat.le_of_ble_eq_true rfl)⟩) rfl rfl (q0 := 0) rfl List.perm_append_comm rfl rfl (Nat.le_of_ble_eq_true rfl) ⟨(Nat.le_of_ble_eq_true rfl), (Nat.le_of_ble_eq_true rfl)⟩ hA dX6_quarrel_8 (fun v w hv => ?_)
  obtain ⟨S2, pl2, pc2, n, hv, hq, hS2, hz2, hw⟩ := hv
  subst hv
  subst hw
  refine g_eq (st' := [iv ((n : Nat) : Int)]) rfl rfl rfl ?_
  exact g_zret F rfl rfl (by decide) (by decide) ⟨S2, pl2, pc2, n, rfl, hq, hS2, hz2, rfl⟩ dX6_quarrel_11
