theorem mul_in {x y : Int} {a b : Nat} (hx : x.natAbs ≤ a) (hy : y.natAbs ≤ b) (h : a * b ≤ 9000000000000000000) : -9223372036854775808 ≤ x * y ∧ x * y ≤ 9223372036854775807 := by
  have := mul_nat hx hy
  omega
def accV (nc : Nat) (lo ce : Nat → Int) (bel : Int) : Nat → Int := fun c => if c < nc then valZ lo ce bel c else 0
/-- how a table's corner stands to the kept plan: cost first, then value by value -/
def ylF (lo ce va : Nat → Int) (tb bb cost : Int) : Nat → Int := fun i => match i with
  | 0 => cmpZ (ce 5 * bb) (cost * tb)
  | c + 1 => cmpZ (valZ lo ce tb c * bb) (va c * tb)
theorem ylF_rng (lo ce va : Nat → Int) (tb bb cost : Int) : ∀ j, -1 ≤ ylF lo ce va tb bb cost j ∧ ylF lo ce va tb bb cost j ≤ 1
  | 0 => cmpZ_rng _ _
  | _ + 1 => cmpZ_rng _ _
abbrev yieldP (nc : Nat) (lo ce va : Nat → Int) (tb far bb cost out : Int) : Prop := ((out ≠ 0 ∨ 0 ≤ far) ∧ out ≠ 2) ∨ (¬ (out ≠ 0 ∨ 0 ≤ far) ∧ lexZ (ylF lo ce va tb bb cost) (nc + 1) < 0)
set_option maxHeartbeats 4000000 in
set_option maxRecDepth 100000 in
theorem kX0_accept (l : Launch) (D : va_G) (cA : Nat → ClassId) (b : Nat → Nat) (b_va : Nat → Int) (b_cost : Int) (b_bel : Int) (b_out : Int) (t : Nat → Nat) (t_ce : Nat → Int) (t_ti : Nat → Int) (t_lo : Nat → Int) (t_hi : Nat → Int) (t_gl : Nat → Int) (t_sh : Nat → Int) (t_nc : Nat) (t_nl : Nat) (t_bel : Int) (t_far : Int) (hnc : t_nc ≤ 5) (hf : -1 ≤ t_far ∧ t_far ≤ 4) (hlo : ∀ j, -20 ≤ t_lo j ∧ t_lo j ≤ 20) : CT l yX0_accept wsX0_accept ({ frames := 1, cells := 0, slots := 0, locals := 21 }) D cA [.ref (b 0), .ref (t 0)] (wB cA b (b_va) (b_cost) (b_bel) (b_out) ++ wT cA t (t_ce) (t_ti) (t_lo) (t_hi) (t_gl) (t_sh) (((t_nc : Nat) : Int)) (((t_nl : Nat) : Int)) (t_bel) (t_far)) (fun ov ow => ov = none ∧ ow = wB cA b (accV t_nc t_lo t_ce t_bel) (t_ce 5) t_bel (if 0 ≤ t_far then 2 else 0) ++ wT cA t t_ce t_ti t_lo t_hi t_gl t_sh (t_nc : Int) (t_nl : Int) t_bel t_far) 0 0 := by
  refine CT.mk (cc := cX0_accept) (maxL := 3) (ret := none) (by decide +kernel) rfl (Nat.le_of_ble_eq_true rfl) ?_
  intro p_ e_ s_ m_ b_ me_ c_ A F hnm hA
  have hV := @IM_P D s_ A
  have iX0 : ∀ w ∈ u_ws RX0 TX0 4, w ∈ wsX0_accept := by decide +kernel
  have iX5 : ∀ w ∈ u_ws RX5 TX5 10, w ∈ wsX0_accept := by decide +kernel
  refine g_lsub ([(0, .ref (b 0)), (1, .ref (t 0))]) [0, 1] rfl ?_
  refine g_aload_n F 0 rfl rfl dX0_accept_0 ?_
  refine g_aload_n F 1 rfl rfl dX0_accept_1 ?_
  refine g_callRV F hV (As := []) (rest := [.ref (b 0)]) (kX5_isEndless l D cA t t_ce t_ti t_lo t_hi t_gl t_sh t_nc t_nl t_bel t_far (hf)) (cwV 0 F.2.2.2.2.1 gX0_accept_X5_isEndless rfl rfl rfl (by decide +kernel) ⟨Nat.le_of_ble_eq_true rfl, Nat.le_of_ble_eq_true rfl⟩) rfl rfl (q0 := 0) rfl [2, 3, 4, 5, 6, 7, 8] rfl rfl rfl (Nat.le_of_ble_eq_true rfl) ⟨Nat.le_of_ble_eq_true rfl, Nat.le_of_ble_eq_true rfl⟩ dX0_accept_2 (fun v hv => ?_)
  subst hv
  refine g_eq (st' := [iv (if 0 ≤ t_far then 1 else 0), .ref (b 0)]) rfl rfl rfl ?_
  refine g_ifb_eq F (tgt := 12) dX0_accept_5 (by decide) (fun c_1 => ?_) (fun c_1 => ?_)
  · skip
    refine g_iconst F dX0_accept_12 ?_
    refine g_eq (st' := [iv (if 0 ≤ t_far then 2 else 0), .ref (b 0)]) rfl rfl (congrArg (fun zz => [iv zz, .ref (b 0)]) (show (0 : Int) = if 0 ≤ t_far then 2 else 0 from (by first | (rw [if_pos (by assumption)]; done) | (rw [if_neg (by assumption)]; done)))) ?_
    refine g_put F iX0 tyX0 tyX0_ok nmX0 0 rfl rfl 3 (by decide) (List.mem_of_getElem? (i := 1) rfl) rfl rfl rfl (Nat.le_of_ble_eq_true rfl) (wB cA b (b_va) (b_cost) (b_bel) (if 0 ≤ t_far then 2 else 0) ++ wT cA t (t_ce) (t_ti) (t_lo) (t_hi) (t_gl) (t_sh) (((t_nc : Nat) : Int)) (((t_nl : Nat) : Int)) (t_bel) (t_far)) rfl dX0_accept_13 ?_
    refine g_aload_n F 0 rfl rfl dX0_accept_16 ?_
    refine g_aload_n F 1 rfl rfl dX0_accept_17 ?_
    refine g_get F hV iX5 2 rfl rfl 8 (by decide) (List.mem_of_getElem? (i := 2) rfl) rfl dX0_accept_18 ?_
    refine g_put F iX0 tyX0 tyX0_ok nmX0 0 rfl rfl 2 (by decide) (List.mem_of_getElem? (i := 3) rfl) rfl rfl rfl (Nat.le_of_ble_eq_true rfl) (wB cA b (b_va) (b_cost) (t_bel) (if 0 ≤ t_far then 2 else 0) ++ wT cA t (t_ce) (t_ti) (t_lo) (t_hi) (t_gl) (t_sh) (((t_nc : Nat) : Int)) (((t_nl : Nat) : Int)) (t_bel) (t_far)) rfl dX0_accept_21 ?_
    refine g_aload_n F 0 rfl rfl dX0_accept_24 ?_
    refine g_aload_n F 1 rfl rfl dX0_accept_25 ?_
    refine g_callRV F hV (As := []) (rest := [.ref (b 0)]) (kX5_costAbove l D cA t t_ce t_ti t_lo t_hi t_gl t_sh t_nc t_nl t_bel t_far) (cwV 0 F.2.2.2.2.1 gX0_accept_X5_costAbove rfl rfl rfl (by decide +kernel) ⟨Nat.le_of_ble_eq_true rfl, Nat.le_of_ble_eq_true rfl⟩) rfl rfl (q0 := 0) rfl [2, 3, 4, 5, 6, 7, 8] rfl rfl rfl (Nat.le_of_ble_eq_true rfl) ⟨Nat.le_of_ble_eq_true rfl, Nat.le_of_ble_eq_true rfl⟩ dX0_accept_26 (fun v hv => ?_)
    subst hv
    refine g_eq (st' := [jv (t_ce 5), .ref (b 0)]) rfl rfl rfl ?_
    refine g_put F iX0 tyX0 tyX0_ok nmX0 0 rfl rfl 1 (by decide) (List.mem_of_getElem? (i := 4) rfl) rfl rfl rfl (Nat.le_of_ble_eq_true rfl) (wB cA b (b_va) (t_ce 5) (t_bel) (if 0 ≤ t_far then 2 else 0) ++ wT cA t (t_ce) (t_ti) (t_lo) (t_hi) (t_gl) (t_sh) (((t_nc : Nat) : Int)) (((t_nl : Nat) : Int)) (t_bel) (t_far)) rfl dX0_accept_29 ?_
    refine g_iconst F dX0_accept_32 ?_
    refine g_istore_n F ([(2, iv (0)), (0, .ref (b 0)), (1, .ref (t 0))]) rfl rfl (by decide) dX0_accept_33 ?_
    have lp34 : ∀ (n : Nat) (c : Nat) (vx : Nat → Int) (hc : c ≤ 5) (hvx : vx = mixZ (accV t_nc t_lo t_ce t_bel) b_va c), 5 - c < n → GW p_ l e_ (headSpec wsX0_accept ({ frames := 1, cells := 0, slots := 0, locals := 21 })).room s_ m_ ([.ref (b 0), .ref (t 0)]).toArray b_ me_ c_ (MQ b_ (Qm D (fun ov ow => ov = none ∧ ow = wB cA b (accV t_nc t_lo t_ce t_bel) (t_ce 5) t_bel (if 0 ≤ t_far then 2 else 0) ++ wT cA t t_ce t_ti t_lo t_hi t_gl t_sh (t_nc : Int) (t_nl : Int) t_bel t_far) A) ([.ref (b 0), .ref (t 0)]).toArray s_ 0 0 A) (IM D s_ A) 3 0 0 (wB cA b (vx) (t_ce 5) (t_bel) (if 0 ≤ t_far then 2 else 0) ++ wT cA t (t_ce) (t_ti) (t_lo) (t_hi) (t_gl) (t_sh) (((t_nc : Nat) : Int)) (((t_nl : Nat) : Int)) (t_bel) (t_far)) ([(0, .ref (b 0)), (1, .ref (t 0)), (2, iv (((c : Nat) : Int)))]) [] 34 := by
      intro n; induction n with
      | zero => intro c vx; intros; omega
      | succ n ih34 =>
        intro c vx hc hvx hmu34
        subst hvx
        refine g_iload_n F 2 rfl rfl dX0_accept_34 ?_
        refine g_iconst F dX0_accept_35 ?_
        refine g_icmp_ge F (tgt := 68) dX0_accept_36 (by decide) ⟨by omega, by omega⟩ ⟨by decide, by decide⟩ (fun c_2 => ?_) (fun c_2 => ?_)
        · skip
          refine g_acongJ 1 (accV t_nc t_lo t_ce t_bel) rfl (fun j hj => mix_lt (by omega)) (wB cA b (accV t_nc t_lo t_ce t_bel) (t_ce 5) (t_bel) (if 0 ≤ t_far then 2 else 0) ++ wT cA t (t_ce) (t_ti) (t_lo) (t_hi) (t_gl) (t_sh) (((t_nc : Nat) : Int)) (((t_nl : Nat) : Int)) (t_bel) (t_far)) rfl ?_
          exact g_vret F rfl (by decide) (by decide) ⟨rfl, rfl⟩ dX0_accept_68
        · skip
          refine g_aload_n F 0 rfl rfl dX0_accept_39 ?_
          refine g_get F hV iX0 0 rfl rfl 0 (by decide) (List.mem_of_getElem? (i := 5) rfl) rfl dX0_accept_40 ?_
          refine g_iload_n F 2 rfl rfl dX0_accept_43 ?_
          refine g_iload_n F 2 rfl rfl dX0_accept_44 ?_
          refine g_aload_n F 1 rfl rfl dX0_accept_45 ?_
          refine g_get F hV iX5 2 rfl rfl 6 (by decide) (List.mem_of_getElem? (i := 6) rfl) rfl dX0_accept_46 ?_
          refine g_icmp_ge F (tgt := 60) dX0_accept_49 (by decide) ⟨by omega, by omega⟩ ⟨by omega, by omega⟩ (fun c_3 => ?_) (fun c_3 => ?_)
          · skip
            refine g_lconst F (z := 0) dX0_accept_60 (by decide) ?_
            refine g_eq (st' := [jv (accV t_nc t_lo t_ce t_bel c), iv (((c : Nat) : Int)), .ref (b 1)]) rfl rfl (congrArg (fun zz => [jv zz, iv (((c : Nat) : Int)), .ref (b 1)]) (show (0 : Int) = accV t_nc t_lo t_ce t_bel c from (by unfold accV; first | (rw [if_pos (by omega)]; done) | (rw [if_neg (by omega)]; done)))) ?_
            refine g_last F 1 rfl (c) (by omega) (by omega) (by decide) (wB cA b (va_up (mixZ (accV t_nc t_lo t_ce t_bel) b_va c) c (accV t_nc t_lo t_ce t_bel c)) (t_ce 5) (t_bel) (if 0 ≤ t_far then 2 else 0) ++ wT cA t (t_ce) (t_ti) (t_lo) (t_hi) (t_gl) (t_sh) (((t_nc : Nat) : Int)) (((t_nl : Nat) : Int)) (t_bel) (t_far)) rfl dX0_accept_61 ?_
            refine g_iinc F 2 rfl ([(2, iv ((((c : Nat) : Int)) + 1)), (0, .ref (b 0)), (1, .ref (t 0))]) rfl (by decide) dX0_accept_62 ?_
            refine g_goto F (tgt := 34) dX0_accept_65 (by decide) ?_
            refine g_lsub ([(0, .ref (b 0)), (1, .ref (t 0)), (2, iv ((((c : Nat) : Int)) + 1))]) [1, 2, 0] rfl ?_
            exact ih34 (c + 1) (va_up (mixZ (accV t_nc t_lo t_ce t_bel) b_va c) c (accV t_nc t_lo t_ce t_bel c)) (by omega) (mix_up rfl) (by omega)
          · skip
            refine g_aload_n F 1 rfl rfl dX0_accept_52 ?_
            refine g_iload_n F 2 rfl rfl dX0_accept_53 ?_
            refine g_callRV F hV (As := [iv (((c : Nat) : Int))]) (rest := [iv (((c : Nat) : Int)), .ref (b 1)]) (kX5_valueAbove l D cA t t_ce t_ti t_lo t_hi t_gl t_sh t_nc t_nl t_bel t_far c (by omega) (hlo)) (cwV 1 F.2.2.2.2.1 gX0_accept_X5_valueAbove rfl rfl rfl (by decide +kernel) ⟨Nat.le_of_ble_eq_true rfl, Nat.le_of_ble_eq_true rfl⟩) rfl rfl (q0 := 0) rfl [2, 3, 4, 5, 6, 7, 8] rfl rfl rfl (Nat.le_of_ble_eq_true rfl) ⟨Nat.le_of_ble_eq_true rfl, Nat.le_of_ble_eq_true rfl⟩ dX0_accept_54 (fun v hv => ?_)
            subst hv
            refine g_eq (st' := [jv (valZ t_lo t_ce t_bel c), iv (((c : Nat) : Int)), .ref (b 1)]) rfl rfl rfl ?_
            refine g_goto F (tgt := 61) dX0_accept_57 (by decide) ?_
            refine g_eq (st' := [jv (accV t_nc t_lo t_ce t_bel c), iv (((c : Nat) : Int)), .ref (b 1)]) rfl rfl (congrArg (fun zz => [jv zz, iv (((c : Nat) : Int)), .ref (b 1)]) (show (valZ t_lo t_ce t_bel c : Int) = accV t_nc t_lo t_ce t_bel c from (by unfold accV; first | (rw [if_pos (by omega)]; done) | (rw [if_neg (by omega)]; done)))) ?_
            refine g_last F 1 rfl (c) (by omega) (by omega) (by decide) (wB cA b (va_up (mixZ (accV t_nc t_lo t_ce t_bel) b_va c) c (accV t_nc t_lo t_ce t_bel c)) (t_ce 5) (t_bel) (if 0 ≤ t_far then 2 else 0) ++ wT cA t (t_ce) (t_ti) (t_lo) (t_hi) (t_gl) (t_sh) (((t_nc : Nat) : Int)) (((t_nl : Nat) : Int)) (t_bel) (t_far)) rfl dX0_accept_61 ?_
            refine g_iinc F 2 rfl ([(2, iv ((((c : Nat) : Int)) + 1)), (0, .ref (b 0)), (1, .ref (t 0))]) rfl (by decide) dX0_accept_62 ?_
            refine g_goto F (tgt := 34) dX0_accept_65 (by decide) ?_
            refine g_lsub ([(0, .ref (b 0)), (1, .ref (t 0)), (2, iv ((((c : Nat) : Int)) + 1))]) [1, 2, 0] rfl ?_
            exact ih34 (c + 1) (va_up (mixZ (accV t_nc t_lo t_ce t_bel) b_va c) c (accV t_nc t_lo t_ce t_bel c)) (by omega) (mix_up rfl) (by omega)
    refine g_lsub ([(0, .ref (b 0)), (1, .ref (t 0)), (2, iv (0))]) [1, 2, 0] rfl ?_
    exact lp34 (_ + 1) 0 b_va (by omega) (mix_0 _ _).symm (Nat.lt_succ_self _)
  · skip
    refine g_iconst F dX0_accept_8 ?_
    refine g_goto F (tgt := 13) dX0_accept_9 (by decide) ?_
    refine g_eq (st' := [iv (if 0 ≤ t_far then 2 else 0), .ref (b 0)]) rfl rfl (congrArg (fun zz => [iv zz, .ref (b 0)]) (show (2 : Int) = if 0 ≤ t_far then 2 else 0 from (by first | (rw [if_pos (by assumption)]; done) | (rw [if_neg (by assumption)]; done)))) ?_
    refine g_put F iX0 tyX0 tyX0_ok nmX0 0 rfl rfl 3 (by decide) (List.mem_of_getElem? (i := 1) rfl) rfl rfl rfl (Nat.le_of_ble_eq_true rfl) (wB cA b (b_va) (b_cost) (b_bel) (if 0 ≤ t_far then 2 else 0) ++ wT cA t (t_ce) (t_ti) (t_lo) (t_hi) (t_gl) (t_sh) (((t_nc : Nat) : Int)) (((t_nl : Nat) : Int)) (t_bel) (t_far)) rfl dX0_accept_13 ?_
    refine g_aload_n F 0 rfl rfl dX0_accept_16 ?_
    refine g_aload_n F 1 rfl rfl dX0_accept_17 ?_
    refine g_get F hV iX5 2 rfl rfl 8 (by decide) (List.mem_of_getElem? (i := 2) rfl) rfl dX0_accept_18 ?_
    refine g_put F iX0 tyX0 tyX0_ok nmX0 0 rfl rfl 2 (by decide) (List.mem_of_getElem? (i := 3) rfl) rfl rfl rfl (Nat.le_of_ble_eq_true rfl) (wB cA b (b_va) (b_cost) (t_bel) (if 0 ≤ t_far then 2 else 0) ++ wT cA t (t_ce) (t_ti) (t_lo) (t_hi) (t_gl) (t_sh) (((t_nc : Nat) : Int)) (((t_nl : Nat) : Int)) (t_bel) (t_far)) rfl dX0_accept_21 ?_
    refine g_aload_n F 0 rfl rfl dX0_accept_24 ?_
    refine g_aload_n F 1 rfl rfl dX0_accept_25 ?_
    refine g_callRV F hV (As := []) (rest := [.ref (b 0)]) (kX5_costAbove l D cA t t_ce t_ti t_lo t_hi t_gl t_sh t_nc t_nl t_bel t_far) (cwV 0 F.2.2.2.2.1 gX0_accept_X5_costAbove rfl rfl rfl (by decide +kernel) ⟨Nat.le_of_ble_eq_true rfl, Nat.le_of_ble_eq_true rfl⟩) rfl rfl (q0 := 0) rfl [2, 3, 4, 5, 6, 7, 8] rfl rfl rfl (Nat.le_of_ble_eq_true rfl) ⟨Nat.le_of_ble_eq_true rfl, Nat.le_of_ble_eq_true rfl⟩ dX0_accept_26 (fun v hv => ?_)
    subst hv
    refine g_eq (st' := [jv (t_ce 5), .ref (b 0)]) rfl rfl rfl ?_
    refine g_put F iX0 tyX0 tyX0_ok nmX0 0 rfl rfl 1 (by decide) (List.mem_of_getElem? (i := 4) rfl) rfl rfl rfl (Nat.le_of_ble_eq_true rfl) (wB cA b (b_va) (t_ce 5) (t_bel) (if 0 ≤ t_far then 2 else 0) ++ wT cA t (t_ce) (t_ti) (t_lo) (t_hi) (t_gl) (t_sh) (((t_nc : Nat) : Int)) (((t_nl : Nat) : Int)) (t_bel) (t_far)) rfl dX0_accept_29 ?_
    refine g_iconst F dX0_accept_32 ?_
    refine g_istore_n F ([(2, iv (0)), (0, .ref (b 0)), (1, .ref (t 0))]) rfl rfl (by decide) dX0_accept_33 ?_
    have lp34 : ∀ (n : Nat) (c : Nat) (vx : Nat → Int) (hc : c ≤ 5) (hvx : vx = mixZ (accV t_nc t_lo t_ce t_bel) b_va c), 5 - c < n → GW p_ l e_ (headSpec wsX0_accept ({ frames := 1, cells := 0, slots := 0, locals := 21 })).room s_ m_ ([.ref (b 0), .ref (t 0)]).toArray b_ me_ c_ (MQ b_ (Qm D (fun ov ow => ov = none ∧ ow = wB cA b (accV t_nc t_lo t_ce t_bel) (t_ce 5) t_bel (if 0 ≤ t_far then 2 else 0) ++ wT cA t t_ce t_ti t_lo t_hi t_gl t_sh (t_nc : Int) (t_nl : Int) t_bel t_far) A) ([.ref (b 0), .ref (t 0)]).toArray s_ 0 0 A) (IM D s_ A) 3 0 0 (wB cA b (vx) (t_ce 5) (t_bel) (if 0 ≤ t_far then 2 else 0) ++ wT cA t (t_ce) (t_ti) (t_lo) (t_hi) (t_gl) (t_sh) (((t_nc : Nat) : Int)) (((t_nl : Nat) : Int)) (t_bel) (t_far)) ([(0, .ref (b 0)), (1, .ref (t 0)), (2, iv (((c : Nat) : Int)))]) [] 34 := by
      intro n; induction n with
      | zero => intro c vx; intros; omega
      | succ n ih34 =>
        intro c vx hc hvx hmu34
        subst hvx
        refine g_iload_n F 2 rfl rfl dX0_accept_34 ?_
        refine g_iconst F dX0_accept_35 ?_
        refine g_icmp_ge F (tgt := 68) dX0_accept_36 (by decide) ⟨by omega, by omega⟩ ⟨by decide, by decide⟩ (fun c_4 => ?_) (fun c_4 => ?_)
        · skip
          refine g_acongJ 1 (accV t_nc t_lo t_ce t_bel) rfl (fun j hj => mix_lt (by omega)) (wB cA b (accV t_nc t_lo t_ce t_bel) (t_ce 5) (t_bel) (if 0 ≤ t_far then 2 else 0) ++ wT cA t (t_ce) (t_ti) (t_lo) (t_hi) (t_gl) (t_sh) (((t_nc : Nat) : Int)) (((t_nl : Nat) : Int)) (t_bel) (t_far)) rfl ?_
          exact g_vret F rfl (by decide) (by decide) ⟨rfl, rfl⟩ dX0_accept_68
        · skip
          refine g_aload_n F 0 rfl rfl dX0_accept_39 ?_
          refine g_get F hV iX0 0 rfl rfl 0 (by decide) (List.mem_of_getElem? (i := 5) rfl) rfl dX0_accept_40 ?_
          refine g_iload_n F 2 rfl rfl dX0_accept_43 ?_
          refine g_iload_n F 2 rfl rfl dX0_accept_44 ?_
          refine g_aload_n F 1 rfl rfl dX0_accept_45 ?_
          refine g_get F hV iX5 2 rfl rfl 6 (by decide) (List.mem_of_getElem? (i := 6) rfl) rfl dX0_accept_46 ?_
          refine g_icmp_ge F (tgt := 60) dX0_accept_49 (by decide) ⟨by omega, by omega⟩ ⟨by omega, by omega⟩ (fun c_5 => ?_) (fun c_5 => ?_)
          · skip
            refine g_lconst F (z := 0) dX0_accept_60 (by decide) ?_
            refine g_eq (st' := [jv (accV t_nc t_lo t_ce t_bel c), iv (((c : Nat) : Int)), .ref (b 1)]) rfl rfl (congrArg (fun zz => [jv zz, iv (((c : Nat) : Int)), .ref (b 1)]) (show (0 : Int) = accV t_nc t_lo t_ce t_bel c from (by unfold accV; first | (rw [if_pos (by omega)]; done) | (rw [if_neg (by omega)]; done)))) ?_
            refine g_last F 1 rfl (c) (by omega) (by omega) (by decide) (wB cA b (va_up (mixZ (accV t_nc t_lo t_ce t_bel) b_va c) c (accV t_nc t_lo t_ce t_bel c)) (t_ce 5) (t_bel) (if 0 ≤ t_far then 2 else 0) ++ wT cA t (t_ce) (t_ti) (t_lo) (t_hi) (t_gl) (t_sh) (((t_nc : Nat) : Int)) (((t_nl : Nat) : Int)) (t_bel) (t_far)) rfl dX0_accept_61 ?_
            refine g_iinc F 2 rfl ([(2, iv ((((c : Nat) : Int)) + 1)), (0, .ref (b 0)), (1, .ref (t 0))]) rfl (by decide) dX0_accept_62 ?_
            refine g_goto F (tgt := 34) dX0_accept_65 (by decide) ?_
            refine g_lsub ([(0, .ref (b 0)), (1, .ref (t 0)), (2, iv ((((c : Nat) : Int)) + 1))]) [1, 2, 0] rfl ?_
            exact ih34 (c + 1) (va_up (mixZ (accV t_nc t_lo t_ce t_bel) b_va c) c (accV t_nc t_lo t_ce t_bel c)) (by omega) (mix_up rfl) (by omega)
          · skip
            refine g_aload_n F 1 rfl rfl dX0_accept_52 ?_
            refine g_iload_n F 2 rfl rfl dX0_accept_53 ?_
            refine g_callRV F hV (As := [iv (((c : Nat) : Int))]) (rest := [iv (((c : Nat) : Int)), .ref (b 1)]) (kX5_valueAbove l D cA t t_ce t_ti t_lo t_hi t_gl t_sh t_nc t_nl t_bel t_far c (by omega) (hlo)) (cwV 1 F.2.2.2.2.1 gX0_accept_X5_valueAbove rfl rfl rfl (by decide +kernel) ⟨Nat.le_of_ble_eq_true rfl, Nat.le_of_ble_eq_true rfl⟩) rfl rfl (q0 := 0) rfl [2, 3, 4, 5, 6, 7, 8] rfl rfl rfl (Nat.le_of_ble_eq_true rfl) ⟨Nat.le_of_ble_eq_true rfl, Nat.le_of_ble_eq_true rfl⟩ dX0_accept_54 (fun v hv => ?_)
            subst hv
            refine g_eq (st' := [jv (valZ t_lo t_ce t_bel c), iv (((c : Nat) : Int)), .ref (b 1)]) rfl rfl rfl ?_
            refine g_goto F (tgt := 61) dX0_accept_57 (by decide) ?_
            refine g_eq (st' := [jv (accV t_nc t_lo t_ce t_bel c), iv (((c : Nat) : Int)), .ref (b 1)]) rfl rfl (congrArg (fun zz => [jv zz, iv (((c : Nat) : Int)), .ref (b 1)]) (show (valZ t_lo t_ce t_bel c : Int) = accV t_nc t_lo t_ce t_bel c from (by unfold accV; first | (rw [if_pos (by omega)]; done) | (rw [if_neg (by omega)]; done)))) ?_
            refine g_last F 1 rfl (c) (by omega) (by omega) (by decide) (wB cA b (va_up (mixZ (accV t_nc t_lo t_ce t_bel) b_va c) c (accV t_nc t_lo t_ce t_bel c)) (t_ce 5) (t_bel) (if 0 ≤ t_far then 2 else 0) ++ wT cA t (t_ce) (t_ti) (t_lo) (t_hi) (t_gl) (t_sh) (((t_nc : Nat) : Int)) (((t_nl : Nat) : Int)) (t_bel) (t_far)) rfl dX0_accept_61 ?_
            refine g_iinc F 2 rfl ([(2, iv ((((c : Nat) : Int)) + 1)), (0, .ref (b 0)), (1, .ref (t 0))]) rfl (by decide) dX0_accept_62 ?_
            refine g_goto F (tgt := 34) dX0_accept_65 (by decide) ?_
            refine g_lsub ([(0, .ref (b 0)), (1, .ref (t 0)), (2, iv ((((c : Nat) : Int)) + 1))]) [1, 2, 0] rfl ?_
            exact ih34 (c + 1) (va_up (mixZ (accV t_nc t_lo t_ce t_bel) b_va c) c (accV t_nc t_lo t_ce t_bel c)) (by omega) (mix_up rfl) (by omega)
    refine g_lsub ([(0, .ref (b 0)), (1, .ref (t 0)), (2, iv (0))]) [1, 2, 0] rfl ?_
    exact lp34 (_ + 1) 0 b_va (by omega) (mix_0 _ _).symm (Nat.lt_succ_self _)

set_option maxHeartbeats 4000000 in
set_option maxRecDepth 100000 in
theorem kX0_mayYieldTo (l : Launch) (D : va_G) (cA : Nat → ClassId) (b : Nat → Nat) (b_va : Nat → Int) (b_cost : Int) (b_bel : Int) (b_out : Int) (t : Nat → Nat) (t_ce : Nat → Int) (t_ti : Nat → Int) (t_lo : Nat → Int) (t_hi : Nat → Int) (t_gl : Nat → Int) (t_sh : Nat → Int) (t_nc : Nat) (t_nl : Nat) (t_bel : Int) (t_far : Int) (hnc : t_nc ≤ 5) (hf : -1 ≤ t_far ∧ t_far ≤ 4) (hlo : ∀ j, -20 ≤ t_lo j ∧ t_lo j ≤ 20) (hC : ∀ i, -100000000000 ≤ t_ce (i * 6 + 5) ∧ t_ce (i * 6 + 5) ≤ 100000000000) (hbl : 0 < t_bel ∧ t_bel ≤ 8000000) (hbb : 0 < b_bel ∧ b_bel ≤ 8000000) (hbc : -200000000000 ≤ b_cost ∧ b_cost ≤ 200000000000) (hbv : ∀ j, -200000000000 ≤ b_va j ∧ b_va j ≤ 200000000000) (hbo : 0 ≤ b_out ∧ b_out ≤ 3) : CR l yX0_mayYieldTo wsX0_mayYieldTo ({ frames := 1, cells := 0, slots := 0, locals := 23 }) D cA [.ref (b 0), .ref (t 0)] (wB cA b (b_va) (b_cost) (b_bel) (b_out) ++ wT cA t (t_ce) (t_ti) (t_lo) (t_hi) (t_gl) (t_sh) (((t_nc : Nat) : Int)) (((t_nl : Nat) : Int)) (t_bel) (t_far)) (fun ov => ov = some (iv (if yieldP t_nc t_lo t_ce b_va t_bel t_far b_bel b_cost b_out then 1 else 0))) := by
  refine CR.mk (cc := cX0_mayYieldTo) (maxL := 4) (ret := (some .boolean)) (by decide +kernel) rfl (Nat.le_of_ble_eq_true rfl) ?_
  intro p_ e_ s_ m_ b_ me_ c_ F
  have hV := @IR_P D s_
  have iX0 : ∀ w ∈ u_ws RX0 TX0 4, w ∈ wsX0_mayYieldTo := by decide +kernel
  have iX5 : ∀ w ∈ u_ws RX5 TX5 10, w ∈ wsX0_mayYieldTo := by decide +kernel
  have hc0 := hC 0
  simp only [Nat.zero_mul, Nat.zero_add] at hc0
  have hyr := lexZ_rng (ylF_rng t_lo t_ce b_va t_bel b_bel b_cost)
  refine g_lsub ([(0, .ref (b 0)), (1, .ref (t 0))]) [0, 1] rfl ?_
  refine g_aload_n F 0 rfl rfl dX0_mayYieldTo_0 ?_
  refine g_get F hV iX0 0 rfl rfl 3 (by decide) (List.mem_of_getElem? (i := 1) rfl) rfl dX0_mayYieldTo_1 ?_
  refine g_if_ne F (tgt := 14) dX0_mayYieldTo_4 (by decide) ⟨by omega, by omega⟩ (fun c_1 => ?_) (fun c_1 => ?_)
  · skip
    refine g_aload_n F 0 rfl rfl dX0_mayYieldTo_14 ?_
    refine g_get F hV iX0 0 rfl rfl 3 (by decide) (List.mem_of_getElem? (i := 1) rfl) rfl dX0_mayYieldTo_15 ?_
    refine g_iconst F dX0_mayYieldTo_18 ?_
    refine g_icmp_eq F (tgt := 26) dX0_mayYieldTo_19 (by decide) ⟨by omega, by omega⟩ ⟨by decide, by decide⟩ (fun c_2 => ?_) (fun c_2 => ?_)
    · skip
      refine g_iconst F dX0_mayYieldTo_26 ?_
      exact g_zretR F rfl (nar_01 (Or.inl rfl)) (congrArg (fun z => some (iv z)) (show (0 : Int) = if yieldP t_nc t_lo t_ce b_va t_bel t_far b_bel b_cost b_out then 1 else 0 by first | (rw [if_neg (by unfold yieldP; omega)]; done) | (rw [if_pos (by unfold yieldP; omega)]; done))) dX0_mayYieldTo_27
    · skip
      refine g_iconst F dX0_mayYieldTo_22 ?_
      refine g_goto F (tgt := 27) dX0_mayYieldTo_23 (by decide) ?_
      exact g_zretR F rfl (nar_01 (Or.inr rfl)) (congrArg (fun z => some (iv z)) (show (1 : Int) = if yieldP t_nc t_lo t_ce b_va t_bel t_far b_bel b_cost b_out then 1 else 0 by first | (rw [if_neg (by unfold yieldP; omega)]; done) | (rw [if_pos (by unfold yieldP; omega)]; done))) dX0_mayYieldTo_27
  · skip
    refine g_aload_n F 1 rfl rfl dX0_mayYieldTo_7 ?_
    refine g_callRV F hV (As := []) (rest := []) (kX5_isEndless l D cA t t_ce t_ti t_lo t_hi t_gl t_sh t_nc t_nl t_bel t_far (hf)) (cwV 0 F.2.2.2.2.1 gX0_mayYieldTo_X5_isEndless rfl rfl rfl (by decide +kernel) ⟨Nat.le_of_ble_eq_true rfl, Nat.le_of_ble_eq_true rfl⟩) rfl rfl (q0 := 0) rfl [2, 3, 4, 5, 6, 7, 8] rfl rfl rfl (Nat.le_of_ble_eq_true rfl) ⟨Nat.le_of_ble_eq_true rfl, Nat.le_of_ble_eq_true rfl⟩ dX0_mayYieldTo_8 (fun v hv => ?_)
    subst hv
    refine g_eq (st' := [iv (if 0 ≤ t_far then 1 else 0)]) rfl rfl rfl ?_
    refine g_ifb_eq F (tgt := 28) dX0_mayYieldTo_11 (by decide) (fun c_3 => ?_) (fun c_3 => ?_)
    · skip
      refine g_aload_n F 1 rfl rfl dX0_mayYieldTo_28 ?_
      refine g_callRV F hV (As := []) (rest := []) (kX5_costAbove l D cA t t_ce t_ti t_lo t_hi t_gl t_sh t_nc t_nl t_bel t_far) (cwV 0 F.2.2.2.2.1 gX0_mayYieldTo_X5_costAbove rfl rfl rfl (by decide +kernel) ⟨Nat.le_of_ble_eq_true rfl, Nat.le_of_ble_eq_true rfl⟩) rfl rfl (q0 := 0) rfl [2, 3, 4, 5, 6, 7, 8] rfl rfl rfl (Nat.le_of_ble_eq_true rfl) ⟨Nat.le_of_ble_eq_true rfl, Nat.le_of_ble_eq_true rfl⟩ dX0_mayYieldTo_29 (fun v hv => ?_)
      subst hv
      refine g_eq (st' := [jv (t_ce 5)]) rfl rfl rfl ?_
      refine g_aload_n F 0 rfl rfl dX0_mayYieldTo_32 ?_
      refine g_get F hV iX0 0 rfl rfl 2 (by decide) (List.mem_of_getElem? (i := 2) rfl) rfl dX0_mayYieldTo_33 ?_
      refine g_lmul F dX0_mayYieldTo_36 ?_
      refine g_aload_n F 0 rfl rfl dX0_mayYieldTo_37 ?_
      refine g_get F hV iX0 0 rfl rfl 1 (by decide) (List.mem_of_getElem? (i := 3) rfl) rfl dX0_mayYieldTo_38 ?_
      refine g_aload_n F 1 rfl rfl dX0_mayYieldTo_41 ?_
      refine g_get F hV iX5 2 rfl rfl 8 (by decide) (List.mem_of_getElem? (i := 4) rfl) rfl dX0_mayYieldTo_42 ?_
      refine g_lmul F dX0_mayYieldTo_45 ?_
      refine g_callRS F hV (As := [jv ((t_ce 5) * b_bel), jv (b_cost * t_bel)]) (rest := []) (kJ13_compare_74951 l D cA ((t_ce 5) * b_bel) (b_cost * t_bel) (mul_in (a := 100000000000) (b := 8000000) (by omega) (by omega) (by decide)) (mul_in (a := 200000000000) (b := 8000000) (by omega) (by omega) (by decide))) (va_cwS 2 F.2.2.2.2.1 gX0_mayYieldTo_J13_compare_74951 rfl rfl rfl (by decide +kernel) ⟨Nat.le_of_ble_eq_true rfl, Nat.le_of_ble_eq_true rfl⟩) [] rfl rfl rfl (Nat.le_of_ble_eq_true rfl) ⟨Nat.le_of_ble_eq_true rfl, Nat.le_of_ble_eq_true rfl⟩ dX0_mayYieldTo_46 (fun v hv => ?_)
      subst hv
      refine g_eq (st' := [iv (cmpZ ((t_ce 5) * b_bel) (b_cost * t_bel))]) rfl rfl rfl ?_
      obtain ⟨o0, ho0⟩ : ∃ y : Int, y = cmpZ ((t_ce 5) * b_bel) (b_cost * t_bel) := ⟨_, rfl⟩
      rw [← ho0]
      refine g_istore_n F ([(2, iv (o0)), (0, .ref (b 0)), (1, .ref (t 0))]) rfl rfl (by decide) dX0_mayYieldTo_49 ?_
      refine g_iconst F dX0_mayYieldTo_50 ?_
      refine g_istore_n F ([(3, iv (0)), (2, iv (o0)), (0, .ref (b 0)), (1, .ref (t 0))]) rfl rfl (by decide) dX0_mayYieldTo_51 ?_
      have lp52 : ∀ (n : Nat) (c : Nat) (x : Int) (hc : c ≤ t_nc) (hx : x = lexZ (ylF t_lo t_ce b_va t_bel b_bel b_cost) (c + 1)), t_nc - c < n → GW p_ l e_ (headSpec wsX0_mayYieldTo ({ frames := 1, cells := 0, slots := 0, locals := 23 })).room s_ m_ ([.ref (b 0), .ref (t 0)]).toArray b_ me_ c_ (MQ b_ (Qr (fun ov => ov = some (iv (if yieldP t_nc t_lo t_ce b_va t_bel t_far b_bel b_cost b_out then 1 else 0)))) ([.ref (b 0), .ref (t 0)]).toArray s_ 0 0 (fun _ => False)) (IR D s_) 4 0 0 (wB cA b (b_va) (b_cost) (b_bel) (b_out) ++ wT cA t (t_ce) (t_ti) (t_lo) (t_hi) (t_gl) (t_sh) (((t_nc : Nat) : Int)) (((t_nl : Nat) : Int)) (t_bel) (t_far)) ([(0, .ref (b 0)), (1, .ref (t 0)), (2, iv (x)), (3, iv (((c : Nat) : Int)))]) [] 52 := by
        intro n; induction n with
        | zero => intro c x; intros; omega
        | succ n ih52 =>
          intro c x hc hx hmu52
          have hxr := hyr (c + 1)
          refine g_iload_n F 3 rfl rfl dX0_mayYieldTo_52 ?_
          refine g_aload_n F 1 rfl rfl dX0_mayYieldTo_53 ?_
          refine g_get F hV iX5 2 rfl rfl 6 (by decide) (List.mem_of_getElem? (i := 5) rfl) rfl dX0_mayYieldTo_54 ?_
          refine g_icmp_ge F (tgt := 95) dX0_mayYieldTo_57 (by decide) ⟨by omega, by omega⟩ ⟨by omega, by omega⟩ (fun c_4 => ?_) (fun c_4 => ?_)
          · skip
            refine g_iload_n F 2 rfl rfl dX0_mayYieldTo_95 ?_
            refine g_if_ge F (tgt := 103) dX0_mayYieldTo_96 (by decide) ⟨by omega, by omega⟩ (fun c_5 => ?_) (fun c_5 => ?_)
            · skip
              refine g_iconst F dX0_mayYieldTo_103 ?_
              exact g_zretR F rfl (nar_01 (Or.inl rfl)) (congrArg (fun z => some (iv z)) (show (0 : Int) = if yieldP t_nc t_lo t_ce b_va t_bel t_far b_bel b_cost b_out then 1 else 0 by (have hz : lexZ (ylF t_lo t_ce b_va t_bel b_bel b_cost) (t_nc + 1) = x := by first | (rw [hx, show t_nc = c by omega]; done) | (rw [hx]; exact lexZ_far (by rw [← hx]; omega) (by omega))); first | (rw [if_neg (by unfold yieldP; rw [hz]; omega)]; done) | (rw [if_pos (by unfold yieldP; rw [hz]; omega)]; done))) dX0_mayYieldTo_104
            · skip
              refine g_iconst F dX0_mayYieldTo_99 ?_
              refine g_goto F (tgt := 104) dX0_mayYieldTo_100 (by decide) ?_
              exact g_zretR F rfl (nar_01 (Or.inr rfl)) (congrArg (fun z => some (iv z)) (show (1 : Int) = if yieldP t_nc t_lo t_ce b_va t_bel t_far b_bel b_cost b_out then 1 else 0 by (have hz : lexZ (ylF t_lo t_ce b_va t_bel b_bel b_cost) (t_nc + 1) = x := by first | (rw [hx, show t_nc = c by omega]; done) | (rw [hx]; exact lexZ_far (by rw [← hx]; omega) (by omega))); first | (rw [if_neg (by unfold yieldP; rw [hz]; omega)]; done) | (rw [if_pos (by unfold yieldP; rw [hz]; omega)]; done))) dX0_mayYieldTo_104
          · skip
            refine g_iload_n F 2 rfl rfl dX0_mayYieldTo_60 ?_
            refine g_if_ne F (tgt := 95) dX0_mayYieldTo_61 (by decide) ⟨by omega, by omega⟩ (fun c_6 => ?_) (fun c_6 => ?_)
            · skip
              refine g_iload_n F 2 rfl rfl dX0_mayYieldTo_95 ?_
              refine g_if_ge F (tgt := 103) dX0_mayYieldTo_96 (by decide) ⟨by omega, by omega⟩ (fun c_7 => ?_) (fun c_7 => ?_)
              · skip
                refine g_iconst F dX0_mayYieldTo_103 ?_
                exact g_zretR F rfl (nar_01 (Or.inl rfl)) (congrArg (fun z => some (iv z)) (show (0 : Int) = if yieldP t_nc t_lo t_ce b_va t_bel t_far b_bel b_cost b_out then 1 else 0 by (have hz : lexZ (ylF t_lo t_ce b_va t_bel b_bel b_cost) (t_nc + 1) = x := by first | (rw [hx, show t_nc = c by omega]; done) | (rw [hx]; exact lexZ_far (by rw [← hx]; omega) (by omega))); first | (rw [if_neg (by unfold yieldP; rw [hz]; omega)]; done) | (rw [if_pos (by unfold yieldP; rw [hz]; omega)]; done))) dX0_mayYieldTo_104
              · skip
                refine g_iconst F dX0_mayYieldTo_99 ?_
                refine g_goto F (tgt := 104) dX0_mayYieldTo_100 (by decide) ?_
                exact g_zretR F rfl (nar_01 (Or.inr rfl)) (congrArg (fun z => some (iv z)) (show (1 : Int) = if yieldP t_nc t_lo t_ce b_va t_bel t_far b_bel b_cost b_out then 1 else 0 by (have hz : lexZ (ylF t_lo t_ce b_va t_bel b_bel b_cost) (t_nc + 1) = x := by first | (rw [hx, show t_nc = c by omega]; done) | (rw [hx]; exact lexZ_far (by rw [← hx]; omega) (by omega))); first | (rw [if_neg (by unfold yieldP; rw [hz]; omega)]; done) | (rw [if_pos (by unfold yieldP; rw [hz]; omega)]; done))) dX0_mayYieldTo_104
            · skip
              refine g_aload_n F 1 rfl rfl dX0_mayYieldTo_64 ?_
              refine g_iload_n F 3 rfl rfl dX0_mayYieldTo_65 ?_
              have hl9 := hlo c
              have hv9 := mul_nat (x := t_lo c) (y := t_bel) (a := 20) (b := 8000000) (by omega) (by omega)
              have hc9 := hC (1 + c)
              have hw9 := hbv c
              refine g_callRV F hV (As := [iv (((c : Nat) : Int))]) (rest := []) (kX5_valueAbove l D cA t t_ce t_ti t_lo t_hi t_gl t_sh t_nc t_nl t_bel t_far c (by omega) (hlo)) (cwV 1 F.2.2.2.2.1 gX0_mayYieldTo_X5_valueAbove rfl rfl rfl (by decide +kernel) ⟨Nat.le_of_ble_eq_true rfl, Nat.le_of_ble_eq_true rfl⟩) rfl rfl (q0 := 0) rfl [2, 3, 4, 5, 6, 7, 8] rfl rfl rfl (Nat.le_of_ble_eq_true rfl) ⟨Nat.le_of_ble_eq_true rfl, Nat.le_of_ble_eq_true rfl⟩ dX0_mayYieldTo_66 (fun v hv => ?_)
              subst hv
              refine g_eq (st' := [jv (valZ t_lo t_ce t_bel c)]) rfl rfl rfl ?_
              refine g_aload_n F 0 rfl rfl dX0_mayYieldTo_69 ?_
              refine g_get F hV iX0 0 rfl rfl 2 (by decide) (List.mem_of_getElem? (i := 2) rfl) rfl dX0_mayYieldTo_70 ?_
              refine g_lmul F dX0_mayYieldTo_73 ?_
              refine g_aload_n F 0 rfl rfl dX0_mayYieldTo_74 ?_
              refine g_get F hV iX0 0 rfl rfl 0 (by decide) (List.mem_of_getElem? (i := 6) rfl) rfl dX0_mayYieldTo_75 ?_
              refine g_iload_n F 3 rfl rfl dX0_mayYieldTo_78 ?_
              refine g_lald F hV 1 rfl (c) (by omega) (by omega) (by decide) dX0_mayYieldTo_79 ?_
              refine g_aload_n F 1 rfl rfl dX0_mayYieldTo_80 ?_
              refine g_get F hV iX5 2 rfl rfl 8 (by decide) (List.mem_of_getElem? (i := 4) rfl) rfl dX0_mayYieldTo_81 ?_
              refine g_lmul F dX0_mayYieldTo_84 ?_
              refine g_callRS F hV (As := [jv ((valZ t_lo t_ce t_bel c) * b_bel), jv ((b_va c) * t_bel)]) (rest := []) (kJ13_compare_74951 l D cA ((valZ t_lo t_ce t_bel c) * b_bel) ((b_va c) * t_bel) (mul_in (a := 200000000000) (b := 8000000) (by unfold valZ; omega) (by omega) (by decide)) (mul_in (a := 200000000000) (b := 8000000) (by omega) (by omega) (by decide))) (va_cwS 2 F.2.2.2.2.1 gX0_mayYieldTo_J13_compare_74951 rfl rfl rfl (by decide +kernel) ⟨Nat.le_of_ble_eq_true rfl, Nat.le_of_ble_eq_true rfl⟩) [] rfl rfl rfl (Nat.le_of_ble_eq_true rfl) ⟨Nat.le_of_ble_eq_true rfl, Nat.le_of_ble_eq_true rfl⟩ dX0_mayYieldTo_85 (fun v hv => ?_)
              subst hv
              refine g_eq (st' := [iv (cmpZ ((valZ t_lo t_ce t_bel c) * b_bel) ((b_va c) * t_bel))]) rfl rfl rfl ?_
              obtain ⟨o1, ho1⟩ : ∃ y : Int, y = cmpZ ((valZ t_lo t_ce t_bel c) * b_bel) ((b_va c) * t_bel) := ⟨_, rfl⟩
              rw [← ho1]
              refine g_istore_n F ([(2, iv (o1)), (0, .ref (b 0)), (1, .ref (t 0)), (3, iv (((c : Nat) : Int)))]) rfl rfl (by decide) dX0_mayYieldTo_88 ?_
              refine g_iinc F 3 rfl ([(3, iv ((((c : Nat) : Int)) + 1)), (2, iv (o1)), (0, .ref (b 0)), (1, .ref (t 0))]) rfl (by decide) dX0_mayYieldTo_89 ?_
              refine g_goto F (tgt := 52) dX0_mayYieldTo_92 (by decide) ?_
              refine g_lsub ([(0, .ref (b 0)), (1, .ref (t 0)), (2, iv (o1)), (3, iv ((((c : Nat) : Int)) + 1))]) [2, 3, 1, 0] rfl ?_
              exact ih52 (c + 1) o1 (by omega) (by rw [ho1, lexZ_succ0 (by rw [← hx]; omega)]; rfl) (by omega)
      refine g_lsub ([(0, .ref (b 0)), (1, .ref (t 0)), (2, iv (o0)), (3, iv (0))]) [2, 3, 1, 0] rfl ?_
      exact lp52 (_ + 1) 0 o0 (by omega) (by rw [ho0]; rfl) (Nat.lt_succ_self _)
    · skip
      refine g_aload_n F 0 rfl rfl dX0_mayYieldTo_14 ?_
      refine g_get F hV iX0 0 rfl rfl 3 (by decide) (List.mem_of_getElem? (i := 1) rfl) rfl dX0_mayYieldTo_15 ?_
      refine g_iconst F dX0_mayYieldTo_18 ?_
      refine g_icmp_eq F (tgt := 26) dX0_mayYieldTo_19 (by decide) ⟨by omega, by omega⟩ ⟨by decide, by decide⟩ (fun c_8 => ?_) (fun c_8 => ?_)
      · skip
        refine g_iconst F dX0_mayYieldTo_26 ?_
        exact g_zretR F rfl (nar_01 (Or.inl rfl)) (congrArg (fun z => some (iv z)) (show (0 : Int) = if yieldP t_nc t_lo t_ce b_va t_bel t_far b_bel b_cost b_out then 1 else 0 by first | (rw [if_neg (by unfold yieldP; omega)]; done) | (rw [if_pos (by unfold yieldP; omega)]; done))) dX0_mayYieldTo_27
      · skip
        refine g_iconst F dX0_mayYieldTo_22 ?_
        refine g_goto F (tgt := 27) dX0_mayYieldTo_23 (by decide) ?_
        exact g_zretR F rfl (nar_01 (Or.inr rfl)) (congrArg (fun z => some (iv z)) (show (1 : Int) = if yieldP t_nc t_lo t_ce b_va t_bel t_far b_bel b_cost b_out then 1 else 0 by first | (rw [if_neg (by unfold yieldP; omega)]; done) | (rw [if_pos (by unfold yieldP; omega)]; done))) dX0_mayYieldTo_27
