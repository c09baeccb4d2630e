set_option maxHeartbeats 4000000 in
set_option maxRecDepth 100000 in
theorem kX1_isLooselyRight (l : Launch) (D : va_G) (cA : Nat → ClassId) (h : Nat → Nat) (h_pl : Nat → Int) (h_pr : Nat → Int) (h_pb : Int) (h_qb : Int) (a : Nat → Nat) (a_kd : Nat → Int) (a_lo : Nat → Int) (a_hi : Nat → Int) (a_co : Nat → Int) (a_pa : Nat → Int) (a_rk : Nat → Int) (a_nu : Nat → Int) (a_ct : Nat → Int) (a_sa : Nat → Int) (a_nc : Nat) (a_nr : Nat) (qnc : a_nc ≤ 5) (qnr : a_nr ≤ 7) (hpl : ∀ j, -200000000000 ≤ h_pl j ∧ h_pl j ≤ 200000000000) (hpb : 0 < h_pb ∧ h_pb ≤ 8000000) (qsa : ∀ j, -9 ≤ a_sa j ∧ a_sa j ≤ 9) (qnu : ∀ j, -198 ≤ a_nu j ∧ a_nu j ≤ 198) (qrk : ∀ j, 0 ≤ a_rk j ∧ a_rk j ≤ 2) (qct : ∀ j, 0 ≤ a_ct j ∧ a_ct j ≤ 1) (qlo : ∀ j, -20 ≤ a_lo j ∧ a_lo j ≤ 20) (qhi : ∀ j, a_hi j = -2000000005 ∨ (-20 ≤ a_hi j ∧ a_hi j ≤ 20)) : CR l yX1_isLooselyRight wsX1_isLooselyRight ({ frames := 4, cells := 0, slots := 0, locals := 94 }) D cA [.ref (h 0), .ref (a 0)] (wH cA h (h_pl) (h_pr) (h_pb) (h_qb) ++ wP cA a (a_kd) (a_lo) (a_hi) (a_co) (a_pa) (a_rk) (a_nu) (a_ct) (a_sa) (((a_nc : Nat) : Int)) (((a_nr : Nat) : Int))) (fun ov => ov = some (iv (if firstZ (outB a_lo a_hi h_pl h_pb) a_nc < 0 ∧ firstZ (brkB a_rk a_nu a_ct a_sa h_pl h_pb a_nc) a_nr < 0 then 1 else 0))) := by
  refine CR.mk (cc := cX1_isLooselyRight) (maxL := 3) (ret := (some .boolean)) (by decide +kernel) rfl (Nat.le_of_ble_eq_true rfl) ?_
  intro p_ e_ s_ m_ b_ me_ c_ F
  have hV := @IR_P D s_
  have iX2 : ∀ w ∈ u_ws RX2 TX2 11, w ∈ wsX1_isLooselyRight := by decide +kernel
  refine g_lsub ([(0, .ref (h 0)), (1, .ref (a 0))]) [0, 1] rfl ?_
  refine g_iconst F dX1_isLooselyRight_0 ?_
  refine g_istore_n F ([(2, iv (0)), (0, .ref (h 0)), (1, .ref (a 0))]) rfl rfl (by decide) dX1_isLooselyRight_1 ?_
  have lp2 : ∀ (n : Nat) (c : Nat) (hc : c ≤ a_nc) (hj : ∀ j, j < c → (outB a_lo a_hi h_pl h_pb) j = false), a_nc - c < n → GW p_ l e_ (headSpec wsX1_isLooselyRight ({ frames := 4, cells := 0, slots := 0, locals := 94 })).room s_ m_ ([.ref (h 0), .ref (a 0)]).toArray b_ me_ c_ (MQ b_ (Qr (fun ov => ov = some (iv (if firstZ (outB a_lo a_hi h_pl h_pb) a_nc < 0 ∧ firstZ (brkB a_rk a_nu a_ct a_sa h_pl h_pb a_nc) a_nr < 0 then 1 else 0)))) ([.ref (h 0), .ref (a 0)]).toArray s_ 0 0 (fun _ => False)) (IR D s_) 3 0 0 (wH cA h (h_pl) (h_pr) (h_pb) (h_qb) ++ wP cA a (a_kd) (a_lo) (a_hi) (a_co) (a_pa) (a_rk) (a_nu) (a_ct) (a_sa) (((a_nc : Nat) : Int)) (((a_nr : Nat) : Int))) ([(0, .ref (h 0)), (1, .ref (a 0)), (2, iv (((c : Nat) : Int)))]) [] 2 := by
    intro n; induction n with
    | zero => intro c; intros; omega
    | succ n ih2 =>
      intro c hc hj hmu2
      refine g_iload_n F 2 rfl rfl dX1_isLooselyRight_2 ?_
      refine g_aload_n F 1 rfl rfl dX1_isLooselyRight_3 ?_
      refine g_get F hV iX2 3 rfl rfl 9 (by decide) (List.mem_of_getElem? (i := 1) rfl) rfl dX1_isLooselyRight_4 ?_
      refine g_icmp_ge F (tgt := 27) dX1_isLooselyRight_7 (by decide) ⟨by omega, by omega⟩ ⟨by omega, by omega⟩ (fun c_1 => ?_) (fun c_1 => ?_)
      · skip
        refine g_aload_n F 0 rfl rfl dX1_isLooselyRight_27 ?_
        refine g_aload_n F 1 rfl rfl dX1_isLooselyRight_28 ?_
        refine g_callRV F hV (As := [.ref (a 0)]) (rest := []) (kX1_brokenRow l D cA h h_pl h_pr h_pb h_qb a a_kd a_lo a_hi a_co a_pa a_rk a_nu a_ct a_sa a_nc a_nr (qnc) (qnr) (hpl) (hpb) (qsa) (qnu) (qrk) (qct)) (cwV 1 F.2.2.2.2.1 gX1_isLooselyRight_X1_brokenRow rfl rfl rfl (by decide +kernel) ⟨Nat.le_of_ble_eq_true rfl, Nat.le_of_ble_eq_true rfl⟩) rfl rfl (q0 := 0) rfl [0, 1, 2, 3, 4, 5, 6, 7, 8, 9, 10, 11, 12] rfl rfl rfl (Nat.le_of_ble_eq_true rfl) ⟨Nat.le_of_ble_eq_true rfl, Nat.le_of_ble_eq_true rfl⟩ dX1_isLooselyRight_29 (fun v hv => ?_)
        subst hv
        refine g_eq (st' := [iv (firstZ (brkB a_rk a_nu a_ct a_sa h_pl h_pb a_nc) a_nr)]) rfl rfl rfl ?_
        have hrr9 := firstZ_rng (brkB a_rk a_nu a_ct a_sa h_pl h_pb a_nc) a_nr
        refine g_if_ge F (tgt := 39) dX1_isLooselyRight_32 (by decide) ⟨by omega, by omega⟩ (fun c_2 => ?_) (fun c_2 => ?_)
        · skip
          refine g_iconst F dX1_isLooselyRight_39 ?_
          exact g_zretR F rfl (nar_01 (Or.inl rfl)) (congrArg (fun z => some (iv z)) (show (0 : Int) = if firstZ (outB a_lo a_hi h_pl h_pb) a_nc < 0 ∧ firstZ (brkB a_rk a_nu a_ct a_sa h_pl h_pb a_nc) a_nr < 0 then 1 else 0 by rw [firstZ_none (f := outB a_lo a_hi h_pl h_pb) (fun j w => hj j (by omega))]; first | (rw [if_neg (by omega)]; done) | (rw [if_pos (by omega)]; done))) dX1_isLooselyRight_40
        · skip
          refine g_iconst F dX1_isLooselyRight_35 ?_
          refine g_goto F (tgt := 40) dX1_isLooselyRight_36 (by decide) ?_
          exact g_zretR F rfl (nar_01 (Or.inr rfl)) (congrArg (fun z => some (iv z)) (show (1 : Int) = if firstZ (outB a_lo a_hi h_pl h_pb) a_nc < 0 ∧ firstZ (brkB a_rk a_nu a_ct a_sa h_pl h_pb a_nc) a_nr < 0 then 1 else 0 by rw [firstZ_none (f := outB a_lo a_hi h_pl h_pb) (fun j w => hj j (by omega))]; first | (rw [if_neg (by omega)]; done) | (rw [if_pos (by omega)]; done))) dX1_isLooselyRight_40
      · skip
        refine g_aload_n F 0 rfl rfl dX1_isLooselyRight_10 ?_
        refine g_aload_n F 1 rfl rfl dX1_isLooselyRight_11 ?_
        refine g_iload_n F 2 rfl rfl dX1_isLooselyRight_12 ?_
        refine g_callRV F hV (As := [.ref (a 0), iv (((c : Nat) : Int))]) (rest := []) (kX1_isInBounds l D cA h h_pl h_pr h_pb h_qb a a_kd a_lo a_hi a_co a_pa a_rk a_nu a_ct a_sa a_nc a_nr c (by omega) (hpl) (hpb) (qlo) (qhi)) (cwV 2 F.2.2.2.2.1 gX1_isLooselyRight_X1_isInBounds rfl rfl rfl (by decide +kernel) ⟨Nat.le_of_ble_eq_true rfl, Nat.le_of_ble_eq_true rfl⟩) rfl rfl (q0 := 0) rfl [0, 1, 2, 3, 4, 5, 6, 7, 8, 9, 10, 11, 12] rfl rfl rfl (Nat.le_of_ble_eq_true rfl) ⟨Nat.le_of_ble_eq_true rfl, Nat.le_of_ble_eq_true rfl⟩ dX1_isLooselyRight_13 (fun v hv => ?_)
        subst hv
        refine g_eq (st' := [iv (if inBP a_lo a_hi h_pl h_pb c then 1 else 0)]) rfl rfl rfl ?_
        refine g_ifb_ne F (tgt := 21) dX1_isLooselyRight_16 (by decide) (fun c_3 => ?_) (fun c_3 => ?_)
        · skip
          refine g_iinc F 2 rfl ([(2, iv ((((c : Nat) : Int)) + 1)), (0, .ref (h 0)), (1, .ref (a 0))]) rfl (by decide) dX1_isLooselyRight_21 ?_
          refine g_goto F (tgt := 2) dX1_isLooselyRight_24 (by decide) ?_
          refine g_lsub ([(0, .ref (h 0)), (1, .ref (a 0)), (2, iv ((((c : Nat) : Int)) + 1))]) [1, 2, 0] rfl ?_
          exact ih2 (c + 1) (by omega) (fun j w => by rcases (show j < c ∨ j = c by omega) with q | q; exact hj j q; subst q; unfold outB; simp only [decide_eq_false_iff_not]; intro q2; exact absurd (by assumption) q2) (by omega)
        · skip
          refine g_iconst F dX1_isLooselyRight_19 ?_
          exact g_zretR F rfl (nar_01 (Or.inl rfl)) (congrArg (fun z => some (iv z)) (show (0 : Int) = if firstZ (outB a_lo a_hi h_pl h_pb) a_nc < 0 ∧ firstZ (brkB a_rk a_nu a_ct a_sa h_pl h_pb a_nc) a_nr < 0 then 1 else 0 by rw [firstZ_at (f := outB a_lo a_hi h_pl h_pb) (i := c) hj (by unfold outB; simp only [decide_eq_true_eq]; assumption) (by omega)]; rw [if_neg (by omega)])) dX1_isLooselyRight_20
  refine g_lsub ([(0, .ref (h 0)), (1, .ref (a 0)), (2, iv (0))]) [1, 2, 0] rfl ?_
  exact lp2 (_ + 1) 0 (by omega) (fun j w => absurd w (Nat.not_lt_zero j)) (Nat.lt_succ_self _)

set_option maxHeartbeats 4000000 in
set_option maxRecDepth 100000 in
theorem kX1_firstDoubt (l : Launch) (D : va_G) (cA : Nat → ClassId) (h : Nat → Nat) (h_pl : Nat → Int) (h_pr : Nat → Int) (h_pb : Int) (h_qb : Int) (a : Nat → Nat) (a_kd : Nat → Int) (a_lo : Nat → Int) (a_hi : Nat → Int) (a_co : Nat → Int) (a_pa : Nat → Int) (a_rk : Nat → Int) (a_nu : Nat → Int) (a_ct : Nat → Int) (a_sa : Nat → Int) (a_nc : Nat) (a_nr : Nat) (qnc : a_nc ≤ 5) (qnr : a_nr ≤ 7) (hpl : ∀ j, -200000000000 ≤ h_pl j ∧ h_pl j ≤ 200000000000) (hpb : 0 < h_pb ∧ h_pb ≤ 8000000) (qsa : ∀ j, -9 ≤ a_sa j ∧ a_sa j ≤ 9) (qnu : ∀ j, -198 ≤ a_nu j ∧ a_nu j ≤ 198) (qrk : ∀ j, 0 ≤ a_rk j ∧ a_rk j ≤ 2) (qct : ∀ j, 0 ≤ a_ct j ∧ a_ct j ≤ 1) (qlo : ∀ j, -20 ≤ a_lo j ∧ a_lo j ≤ 20) (qhi : ∀ j, a_hi j = -2000000005 ∨ (-20 ≤ a_hi j ∧ a_hi j ≤ 20)) (hpr : ∀ j, -1000000 ≤ h_pr j ∧ h_pr j ≤ 1000000) (hqb : 1 ≤ h_qb ∧ h_qb ≤ 1000000) (qco : ∀ j, -9 ≤ a_co j ∧ a_co j ≤ 9) : CR l yX1_firstDoubt wsX1_firstDoubt ({ frames := 5, cells := 0, slots := 0, locals := 116 }) D cA [.ref (h 0), .ref (a 0)] (wH cA h (h_pl) (h_pr) (h_pb) (h_qb) ++ wP cA a (a_kd) (a_lo) (a_hi) (a_co) (a_pa) (a_rk) (a_nu) (a_ct) (a_sa) (((a_nc : Nat) : Int)) (((a_nr : Nat) : Int))) (fun ov => ov = some (iv (if ¬ (firstZ (outB a_lo a_hi h_pl h_pb) a_nc < 0 ∧ firstZ (brkB a_rk a_nu a_ct a_sa h_pl h_pb a_nc) a_nr < 0) then 1 else if 0 ≤ firstZ (wpB a_rk a_ct h_pr) a_nr then 2 else if 0 ≤ firstZ (wrB a_lo a_hi a_co a_ct a_sa h_pr h_pl h_qb h_pb a_nr) a_nc then 3 else if 0 ≤ firstZ (idB a_nu a_ct a_sa h_pr h_pl h_pb a_nc) a_nr then 4 else 0))) := by
  refine CR.mk (cc := cX1_firstDoubt) (maxL := 2) (ret := (some .int)) (by decide +kernel) rfl (Nat.le_of_ble_eq_true rfl) ?_
  intro p_ e_ s_ m_ b_ me_ c_ F
  have hV := @IR_P D s_
  refine g_lsub ([(0, .ref (h 0)), (1, .ref (a 0))]) [0, 1] rfl ?_
  refine g_aload_n F 0 rfl rfl dX1_firstDoubt_0 ?_
  refine g_aload_n F 1 rfl rfl dX1_firstDoubt_1 ?_
  refine g_callRV F hV (As := [.ref (a 0)]) (rest := []) (kX1_isLooselyRight l D cA h h_pl h_pr h_pb h_qb a a_kd a_lo a_hi a_co a_pa a_rk a_nu a_ct a_sa a_nc a_nr (qnc) (qnr) (hpl) (hpb) (qsa) (qnu) (qrk) (qct) (qlo) (qhi)) (cwV 1 F.2.2.2.2.1 gX1_firstDoubt_X1_isLooselyRight rfl rfl rfl (by decide +kernel) ⟨Nat.le_of_ble_eq_true rfl, Nat.le_of_ble_eq_true rfl⟩) rfl rfl (q0 := 0) rfl [0, 1, 2, 3, 4, 5, 6, 7, 8, 9, 10, 11, 12] rfl rfl rfl (Nat.le_of_ble_eq_true rfl) ⟨Nat.le_of_ble_eq_true rfl, Nat.le_of_ble_eq_true rfl⟩ dX1_firstDoubt_2 (fun v hv => ?_)
  subst hv
  refine g_eq (st' := [iv (if firstZ (outB a_lo a_hi h_pl h_pb) a_nc < 0 ∧ firstZ (brkB a_rk a_nu a_ct a_sa h_pl h_pb a_nc) a_nr < 0 then 1 else 0)]) rfl rfl rfl ?_
  refine g_ifb_ne F (tgt := 10) dX1_firstDoubt_5 (by decide) (fun c_1 => ?_) (fun c_1 => ?_)
  · skip
    refine g_aload_n F 0 rfl rfl dX1_firstDoubt_10 ?_
    refine g_aload_n F 1 rfl rfl dX1_firstDoubt_11 ?_
    refine g_callRV F hV (As := [.ref (a 0)]) (rest := []) (kX1_hasWrongPrice l D cA h h_pl h_pr h_pb h_qb a a_kd a_lo a_hi a_co a_pa a_rk a_nu a_ct a_sa a_nc a_nr (qnr) (hpr) (qrk) (qct)) (cwV 1 F.2.2.2.2.1 gX1_firstDoubt_X1_hasWrongPrice rfl rfl rfl (by decide +kernel) ⟨Nat.le_of_ble_eq_true rfl, Nat.le_of_ble_eq_true rfl⟩) rfl rfl (q0 := 0) rfl [0, 1, 2, 3, 4, 5, 6, 7, 8, 9, 10, 11, 12] rfl rfl rfl (Nat.le_of_ble_eq_true rfl) ⟨Nat.le_of_ble_eq_true rfl, Nat.le_of_ble_eq_true rfl⟩ dX1_firstDoubt_12 (fun v hv => ?_)
    subst hv
    refine g_eq (st' := [iv (if 0 ≤ firstZ (wpB a_rk a_ct h_pr) a_nr then 1 else 0)]) rfl rfl rfl ?_
    refine g_ifb_eq F (tgt := 20) dX1_firstDoubt_15 (by decide) (fun c_2 => ?_) (fun c_2 => ?_)
    · skip
      refine g_aload_n F 0 rfl rfl dX1_firstDoubt_20 ?_
      refine g_aload_n F 1 rfl rfl dX1_firstDoubt_21 ?_
      refine g_callRV F hV (As := [.ref (a 0)]) (rest := []) (kX1_hasWrongRest l D cA h h_pl h_pr h_pb h_qb a a_kd a_lo a_hi a_co a_pa a_rk a_nu a_ct a_sa a_nc a_nr (qnc) (qnr) (hpl) (hpb) (hpr) (hqb) (qlo) (qhi) (qco) (qsa) (qct)) (cwV 1 F.2.2.2.2.1 gX1_firstDoubt_X1_hasWrongRest rfl rfl rfl (by decide +kernel) ⟨Nat.le_of_ble_eq_true rfl, Nat.le_of_ble_eq_true rfl⟩) rfl rfl (q0 := 0) rfl [0, 1, 2, 3, 4, 5, 6, 7, 8, 9, 10, 11, 12] rfl rfl rfl (Nat.le_of_ble_eq_true rfl) ⟨Nat.le_of_ble_eq_true rfl, Nat.le_of_ble_eq_true rfl⟩ dX1_firstDoubt_22 (fun v hv => ?_)
      subst hv
      refine g_eq (st' := [iv (if 0 ≤ firstZ (wrB a_lo a_hi a_co a_ct a_sa h_pr h_pl h_qb h_pb a_nr) a_nc then 1 else 0)]) rfl rfl rfl ?_
      refine g_ifb_eq F (tgt := 30) dX1_firstDoubt_25 (by decide) (fun c_3 => ?_) (fun c_3 => ?_)
      · skip
        refine g_aload_n F 0 rfl rfl dX1_firstDoubt_30 ?_
        refine g_aload_n F 1 rfl rfl dX1_firstDoubt_31 ?_
        refine g_callRV F hV (As := [.ref (a 0)]) (rest := []) (kX1_hasIdlePrice l D cA h h_pl h_pr h_pb h_qb a a_kd a_lo a_hi a_co a_pa a_rk a_nu a_ct a_sa a_nc a_nr (qnc) (qnr) (hpl) (hpb) (hpr) (qsa) (qnu) (qct)) (cwV 1 F.2.2.2.2.1 gX1_firstDoubt_X1_hasIdlePrice rfl rfl rfl (by decide +kernel) ⟨Nat.le_of_ble_eq_true rfl, Nat.le_of_ble_eq_true rfl⟩) rfl rfl (q0 := 0) rfl [0, 1, 2, 3, 4, 5, 6, 7, 8, 9, 10, 11, 12] rfl rfl rfl (Nat.le_of_ble_eq_true rfl) ⟨Nat.le_of_ble_eq_true rfl, Nat.le_of_ble_eq_true rfl⟩ dX1_firstDoubt_32 (fun v hv => ?_)
        subst hv
        refine g_eq (st' := [iv (if 0 ≤ firstZ (idB a_nu a_ct a_sa h_pr h_pl h_pb a_nc) a_nr then 1 else 0)]) rfl rfl rfl ?_
        refine g_ifb_eq F (tgt := 42) dX1_firstDoubt_35 (by decide) (fun c_4 => ?_) (fun c_4 => ?_)
        · skip
          refine g_iconst F dX1_firstDoubt_42 ?_
          exact g_zretR F rfl rfl (congrArg (fun z => some (iv z)) (show (0 : Int) = if ¬ (firstZ (outB a_lo a_hi h_pl h_pb) a_nc < 0 ∧ firstZ (brkB a_rk a_nu a_ct a_sa h_pl h_pb a_nc) a_nr < 0) then 1 else if 0 ≤ firstZ (wpB a_rk a_ct h_pr) a_nr then 2 else if 0 ≤ firstZ (wrB a_lo a_hi a_co a_ct a_sa h_pr h_pl h_qb h_pb a_nr) a_nc then 3 else if 0 ≤ firstZ (idB a_nu a_ct a_sa h_pr h_pl h_pb a_nc) a_nr then 4 else 0 by first | (rw [if_pos (by assumption)]; done) | (rw [if_neg (not_not_intro (by assumption)), if_pos (by assumption)]; done) | (rw [if_neg (not_not_intro (by assumption)), if_neg (by assumption), if_pos (by assumption)]; done) | (rw [if_neg (not_not_intro (by assumption)), if_neg (by assumption), if_neg (by assumption), if_pos (by assumption)]; done) | (rw [if_neg (not_not_intro (by assumption)), if_neg (by assumption), if_neg (by assumption), if_neg (by assumption)]; done))) dX1_firstDoubt_43
        · skip
          refine g_iconst F dX1_firstDoubt_38 ?_
          refine g_goto F (tgt := 43) dX1_firstDoubt_39 (by decide) ?_
          exact g_zretR F rfl rfl (congrArg (fun z => some (iv z)) (show (4 : Int) = if ¬ (firstZ (outB a_lo a_hi h_pl h_pb) a_nc < 0 ∧ firstZ (brkB a_rk a_nu a_ct a_sa h_pl h_pb a_nc) a_nr < 0) then 1 else if 0 ≤ firstZ (wpB a_rk a_ct h_pr) a_nr then 2 else if 0 ≤ firstZ (wrB a_lo a_hi a_co a_ct a_sa h_pr h_pl h_qb h_pb a_nr) a_nc then 3 else if 0 ≤ firstZ (idB a_nu a_ct a_sa h_pr h_pl h_pb a_nc) a_nr then 4 else 0 by first | (rw [if_pos (by assumption)]; done) | (rw [if_neg (not_not_intro (by assumption)), if_pos (by assumption)]; done) | (rw [if_neg (not_not_intro (by assumption)), if_neg (by assumption), if_pos (by assumption)]; done) | (rw [if_neg (not_not_intro (by assumption)), if_neg (by assumption), if_neg (by assumption), if_pos (by assumption)]; done) | (rw [if_neg (not_not_intro (by assumption)), if_neg (by assumption), if_neg (by assumption), if_neg (by assumption)]; done))) dX1_firstDoubt_43
      · skip
        refine g_iconst F dX1_firstDoubt_28 ?_
        exact g_zretR F rfl rfl (congrArg (fun z => some (iv z)) (show (3 : Int) = if ¬ (firstZ (outB a_lo a_hi h_pl h_pb) a_nc < 0 ∧ firstZ (brkB a_rk a_nu a_ct a_sa h_pl h_pb a_nc) a_nr < 0) then 1 else if 0 ≤ firstZ (wpB a_rk a_ct h_pr) a_nr then 2 else if 0 ≤ firstZ (wrB a_lo a_hi a_co a_ct a_sa h_pr h_pl h_qb h_pb a_nr) a_nc then 3 else if 0 ≤ firstZ (idB a_nu a_ct a_sa h_pr h_pl h_pb a_nc) a_nr then 4 else 0 by first | (rw [if_pos (by assumption)]; done) | (rw [if_neg (not_not_intro (by assumption)), if_pos (by assumption)]; done) | (rw [if_neg (not_not_intro (by assumption)), if_neg (by assumption), if_pos (by assumption)]; done) | (rw [if_neg (not_not_intro (by assumption)), if_neg (by assumption), if_neg (by assumption), if_pos (by assumption)]; done) | (rw [if_neg (not_not_intro (by assumption)), if_neg (by assumption), if_neg (by assumption), if_neg (by assumption)]; done))) dX1_firstDoubt_29
    · skip
      refine g_iconst F dX1_firstDoubt_18 ?_
      exact g_zretR F rfl rfl (congrArg (fun z => some (iv z)) (show (2 : Int) = if ¬ (firstZ (outB a_lo a_hi h_pl h_pb) a_nc < 0 ∧ firstZ (brkB a_rk a_nu a_ct a_sa h_pl h_pb a_nc) a_nr < 0) then 1 else if 0 ≤ firstZ (wpB a_rk a_ct h_pr) a_nr then 2 else if 0 ≤ firstZ (wrB a_lo a_hi a_co a_ct a_sa h_pr h_pl h_qb h_pb a_nr) a_nc then 3 else if 0 ≤ firstZ (idB a_nu a_ct a_sa h_pr h_pl h_pb a_nc) a_nr then 4 else 0 by first | (rw [if_pos (by assumption)]; done) | (rw [if_neg (not_not_intro (by assumption)), if_pos (by assumption)]; done) | (rw [if_neg (not_not_intro (by assumption)), if_neg (by assumption), if_pos (by assumption)]; done) | (rw [if_neg (not_not_intro (by assumption)), if_neg (by assumption), if_neg (by assumption), if_pos (by assumption)]; done) | (rw [if_neg (not_not_intro (by assumption)), if_neg (by assumption), if_neg (by assumption), if_neg (by assumption)]; done))) dX1_firstDoubt_19
  · skip
    refine g_iconst F dX1_firstDoubt_8 ?_
    exact g_zretR F rfl rfl (congrArg (fun z => some (iv z)) (show (1 : Int) = if ¬ (firstZ (outB a_lo a_hi h_pl h_pb) a_nc < 0 ∧ firstZ (brkB a_rk a_nu a_ct a_sa h_pl h_pb a_nc) a_nr < 0) then 1 else if 0 ≤ firstZ (wpB a_rk a_ct h_pr) a_nr then 2 else if 0 ≤ firstZ (wrB a_lo a_hi a_co a_ct a_sa h_pr h_pl h_qb h_pb a_nr) a_nc then 3 else if 0 ≤ firstZ (idB a_nu a_ct a_sa h_pr h_pl h_pb a_nc) a_nr then 4 else 0 by first | (rw [if_pos (by assumption)]; done) | (rw [if_neg (not_not_intro (by assumption)), if_pos (by assumption)]; done) | (rw [if_neg (not_not_intro (by assumption)), if_neg (by assumption), if_pos (by assumption)]; done) | (rw [if_neg (not_not_intro (by assumption)), if_neg (by assumption), if_neg (by assumption), if_pos (by assumption)]; done) | (rw [if_neg (not_not_intro (by assumption)), if_neg (by assumption), if_neg (by assumption), if_neg (by assumption)]; done))) dX1_firstDoubt_9
