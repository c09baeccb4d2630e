set_option maxHeartbeats 4000000 in
set_option maxRecDepth 100000 in
theorem lc_take {p : Program} {l : Launch} {e : Env} {s : State} {m : MethodId} {below : List Frame} {meth : Method} {c : Code} {Q : State → Prop} {D : va_G} {cA : Nat → ClassId} {A : Nat → Prop} {sb Ln : Nat} {xs : Nat → Int32} {x se pg bt qr tq hd md : Nat → Nat} (F : Fx p s m #[Value.ref sb] meth c cL_law 4 RL wsL_law ret D cA) (hA : ∀ q, s.heap.size ≤ q → A q) (hX : va_X sb Ln xs s s.heap) (hbl : sb < s.heap.size) (hbA : ¬ A sb) (hL : Ln ≤ 2048) (i : Nat) (hi : i + 4 ≤ Ln) (kc ks : Nat) (hkc : kc + 364 ≤ 600000 ∧ ks + 8112 ≤ 7302250) (hk : lwN p l e s m sb below meth c Q D cA A x se pg bt qr tq hd md i (kc + 364) (ks + 8112) 887) : lwN p l e s m sb below meth c Q D cA A x se pg bt qr tq hd md i kc ks 734 := by
  intro kd lo hi co pa rk nu ct sa nc nr so X k ad tbf ql qc n1 S pl pr pu qu ke bu bc fs cd un hb pf ef fr cs cn ck ch tb cr fx fv sn be tr wy hI
  obtain ⟨hpr0, ⟨hS, hbd, hbo, hk51, ht1, ht2, h00⟩, ⟨hSq, hzq⟩, ⟨hpl, hpb, hpr, hqb⟩, ⟨hbm, hke⟩, hrel⟩ := id hI
  obtain ⟨hP, hR, hco, hpa5, hpaN, hle, zs, zc⟩ := id hpr0
  have qnc := hP.1
  have qkd := hP.2.1
  have qlo := hP.2.2.1
  have qhi : ∀ j, hi j = -2000000005 ∨ (-20 ≤ hi j ∧ hi j ≤ 20) := hP.2.2.2.1
  have qnr := hR.1
  have qrk := hR.2.1
  have qnu := hR.2.2.1
  have qnu2 : ∀ j, -198 ≤ nu j ∧ nu j ≤ 198 := fun j => by have := qnu j; omega
  have qsa := hR.2.2.2.1
  have qct := hR.2.2.2.2
  have hbb := hbd.1
  have hbc9 := hbd.2.1
  have hbv := hbd.2.2
  have hbu9 : 0 < bu ∧ bu ≤ 8000000 := hbm.1
  have hbcm : -200000000000 ≤ bc ∧ bc ≤ 200000000000 := hbm.2.1
  have hbem : ∀ j, -200000000000 ≤ be j ∧ be j ≤ 200000000000 := hbm.2.2
  have hpb1 : 1 ≤ pu ∧ pu ≤ 2000000000 := by omega
  have hV := @IM_P D s A
  have hz1 : -2147483648 ≤ (xs (i + 1)).toInt ∧ (xs (i + 1)).toInt ≤ 2147483647 := i32_rng _
  have hz2 : -2147483648 ≤ (xs (i + 2)).toInt ∧ (xs (i + 2)).toInt ≤ 2147483647 := i32_rng _
  have hz3 : -2147483648 ≤ (xs (i + 3)).toInt ∧ (xs (i + 3)).toInt ≤ 2147483647 := i32_rng _
  obtain ⟨z1, hz1e⟩ : ∃ z, z = (xs (i + 1)).toInt := ⟨_, rfl⟩
  obtain ⟨z2, hz2e⟩ : ∃ z, z = (xs (i + 2)).toInt := ⟨_, rfl⟩
  obtain ⟨z3, hz3e⟩ : ∃ z, z = (xs (i + 3)).toInt := ⟨_, rfl⟩
  rw [← hz1e] at hz1
  rw [← hz2e] at hz2
  rw [← hz3e] at hz3
  by_cases hc : (bBs X).2.2.2 = 0
  · have hc2 : ke = 0 := hrel.1.mp hc
    have hgr := gr_prop hbb.1 hbu9.1 (hrel.2 hc).2
    have hgb := gr_bnd hbb hbv
    refine g_aload_n F 1 rfl rfl dL_law_734 ?_
    refine g_callVP F (As := []) (rest := []) (wr := wfl [wS cA se tbf (bSp X) (bSg X), wP cA pg kd lo hi co pa rk nu ct sa ((nc : Nat) : Int) ((nr : Nat) : Int), wQ cA qr (tq 0) ql qc, wTS cA tq n1 S, wMO cA md ((nc : Nat) : Int) ((nr : Nat) : Int) ke so bu bc pu qu fs cd un hb pf ef, wMP cA md kd lo hi co pa rk nu ct sa, wME cA md fr cs cn ck ch tb cr, wMX cA md fx fv sn, wMB cA md be tr wy, wMH cA md pl pr, poolE cA ad (bTb X) (fun _ => false) k]) (kX6_take l D cA x (pg 0) (se 0) (qr 0) so hd pl pr pu qu bt (bBs X).1 (bBs X).2.1 (bBs X).2.2.1 (bBs X).2.2.2 (by first | assumption | omega) (by first | assumption | omega) (by first | assumption | omega) (by first | assumption | omega)) (cwV 0 F.2.2.2.2.1 gL_law_X6_take rfl rfl rfl (by decide +kernel) ⟨(Nat.le_of_ble_eq_true rfl), (Nat.le_of_ble_eq_true rfl)⟩) rfl rfl (q0 := 0) rfl (wf_split (n := 14) (C := [wC cA x (pg 0) (bt 0) (se 0) (qr 0) (hd 0) so, wH cA hd pl pr pu qu, wB cA bt (bBs X).1 (bBs X).2.1 (bBs X).2.2.1 (bBs X).2.2.2]) (R := [wS cA se tbf (bSp X) (bSg X), wP cA pg kd lo hi co pa rk nu ct sa ((nc : Nat) : Int) ((nr : Nat) : Int), wQ cA qr (tq 0) ql qc, wTS cA tq n1 S, wMO cA md ((nc : Nat) : Int) ((nr : Nat) : Int) ke so bu bc pu qu fs cd un hb pf ef, wMP cA md kd lo hi co pa rk nu ct sa, wME cA md fr cs cn ck ch tb cr, wMX cA md fx fv sn, wMB cA md be tr wy, wMH cA md pl pr, poolE cA ad (bTb X) (fun _ => false) k]) [0, 6, 3, 1, 2, 4, 5, 7, 8, 9, 10, 11, 12, 13] rfl (by decide) rfl) rfl rfl (Nat.le_of_ble_eq_true rfl) ⟨by show kc + 0 ≤ 600000; omega, by show ks + 0 ≤ 7302250; omega⟩ hA dL_law_735 (fun v w hv => ?_)
    obtain ⟨hv, hw⟩ := hv
    rw [if_pos hc] at hv
    rw [if_pos hc] at hw
    subst hv
    subst hw
    refine g_perm (wfl [wC cA x (pg 0) (bt 0) (se 0) (qr 0) (hd 0) so, wS cA se tbf (bSp X) (bSg X), wP cA pg kd lo hi co pa rk nu ct sa ((nc : Nat) : Int) ((nr : Nat) : Int), wB cA bt (bBs X).1 (bBs X).2.1 (bBs X).2.2.1 (bBs X).2.2.2, wQ cA qr (tq 0) ql qc, wTS cA tq n1 S, wH cA hd (grV (bBs X).1 (bBs X).2.2.1) pr (Int.tdiv (bBs X).2.2.1 ((gbZ (bBs X).1 (bBs X).2.2.1 5 : Nat) : Int)) qu, wMO cA md ((nc : Nat) : Int) ((nr : Nat) : Int) ke so bu bc pu qu fs cd un hb pf ef, wMP cA md kd lo hi co pa rk nu ct sa, wME cA md fr cs cn ck ch tb cr, wMX cA md fx fv sn, wMB cA md be tr wy, wMH cA md pl pr, poolE cA ad (bTb X) (fun _ => false) k]) (wf_split (n := 14) (C := [wS cA se tbf (bSp X) (bSg X), wP cA pg kd lo hi co pa rk nu ct sa ((nc : Nat) : Int) ((nr : Nat) : Int), wQ cA qr (tq 0) ql qc, wTS cA tq n1 S, wMO cA md ((nc : Nat) : Int) ((nr : Nat) : Int) ke so bu bc pu qu fs cd un hb pf ef, wMP cA md kd lo hi co pa rk nu ct sa, wME cA md fr cs cn ck ch tb cr, wMX cA md fx fv sn, wMB cA md be tr wy, wMH cA md pl pr, poolE cA ad (bTb X) (fun _ => false) k]) (R := [wC cA x (pg 0) (bt 0) (se 0) (qr 0) (hd 0) so, wH cA hd (grV (bBs X).1 (bBs X).2.2.1) pr (Int.tdiv (bBs X).2.2.1 ((gbZ (bBs X).1 (bBs X).2.2.1 5 : Nat) : Int)) qu, wB cA bt (bBs X).1 (bBs X).2.1 (bBs X).2.2.1 (bBs X).2.2.2]) [1, 2, 4, 5, 7, 8, 9, 10, 11, 12, 13, 0, 6, 3] rfl (by decide) rfl).symm ?_
    refine g_eq (st' := [jv (Int.tdiv (bBs X).2.2.1 ((gbZ (bBs X).1 (bBs X).2.2.1 5 : Nat) : Int))]) rfl rfl rfl ?_
    refine g_aload_n F 2 rfl rfl dL_law_738 ?_
    refine g_callVP F (As := []) (rest := [jv (Int.tdiv (bBs X).2.2.1 ((gbZ (bBs X).1 (bBs X).2.2.1 5 : Nat) : Int))]) (wr := wfl [wC cA x (pg 0) (bt 0) (se 0) (qr 0) (hd 0) so, wS cA se tbf (bSp X) (bSg X), wP cA pg kd lo hi co pa rk nu ct sa ((nc : Nat) : Int) ((nr : Nat) : Int), wB cA bt (bBs X).1 (bBs X).2.1 (bBs X).2.2.1 (bBs X).2.2.2, wQ cA qr (tq 0) ql qc, wTS cA tq n1 S, wH cA hd (grV (bBs X).1 (bBs X).2.2.1) pr (Int.tdiv (bBs X).2.2.1 ((gbZ (bBs X).1 (bBs X).2.2.1 5 : Nat) : Int)) qu, wMP cA md kd lo hi co pa rk nu ct sa, wME cA md fr cs cn ck ch tb cr, wMX cA md fx fv sn, poolE cA ad (bTb X) (fun _ => false) k]) (kX7_take l D cA md nc nr ke so bu bc pu qu fs cd un hb pf ef be tr wy pl pr (by first | assumption | omega) (by first | assumption | omega) (by first | assumption | omega)) (cwV 0 F.2.2.2.2.1 gL_law_X7_take rfl rfl rfl (by decide +kernel) ⟨(Nat.le_of_ble_eq_true rfl), (Nat.le_of_ble_eq_true rfl)⟩) rfl rfl (q0 := 0) rfl (wf_split (n := 14) (C := [wMO cA md ((nc : Nat) : Int) ((nr : Nat) : Int) ke so bu bc pu qu fs cd un hb pf ef, wMB cA md be tr wy, wMH cA md pl pr]) (R := [wC cA x (pg 0) (bt 0) (se 0) (qr 0) (hd 0) so, wS cA se tbf (bSp X) (bSg X), wP cA pg kd lo hi co pa rk nu ct sa ((nc : Nat) : Int) ((nr : Nat) : Int), wB cA bt (bBs X).1 (bBs X).2.1 (bBs X).2.2.1 (bBs X).2.2.2, wQ cA qr (tq 0) ql qc, wTS cA tq n1 S, wH cA hd (grV (bBs X).1 (bBs X).2.2.1) pr (Int.tdiv (bBs X).2.2.1 ((gbZ (bBs X).1 (bBs X).2.2.1 5 : Nat) : Int)) qu, wMP cA md kd lo hi co pa rk nu ct sa, wME cA md fr cs cn ck ch tb cr, wMX cA md fx fv sn, poolE cA ad (bTb X) (fun _ => false) k]) [7, 11, 12, 0, 1, 2, 3, 4, 5, 6, 8, 9, 10, 13] rfl (by decide) rfl) rfl rfl (Nat.le_of_ble_eq_true rfl) ⟨by show kc + 0 ≤ 600000; omega, by show ks + 0 ≤ 7302250; omega⟩ hA dL_law_739 (fun v w hv => ?_)
    obtain ⟨hv, hw⟩ := hv
    rw [if_pos hc2] at hv
    rw [if_pos hc2] at hw
    subst hv
    subst hw
    refine g_perm (wfl [wC cA x (pg 0) (bt 0) (se 0) (qr 0) (hd 0) so, wS cA se tbf (bSp X) (bSg X), wP cA pg kd lo hi co pa rk nu ct sa ((nc : Nat) : Int) ((nr : Nat) : Int), wB cA bt (bBs X).1 (bBs X).2.1 (bBs X).2.2.1 (bBs X).2.2.2, wQ cA qr (tq 0) ql qc, wTS cA tq n1 S, wH cA hd (grV (bBs X).1 (bBs X).2.2.1) pr (Int.tdiv (bBs X).2.2.1 ((gbZ (bBs X).1 (bBs X).2.2.1 5 : Nat) : Int)) qu, wMO cA md ((nc : Nat) : Int) ((nr : Nat) : Int) ke so bu bc (Int.tdiv bu ((gbZ be bu 5 : Nat) : Int)) qu fs cd un hb pf ef, wMP cA md kd lo hi co pa rk nu ct sa, wME cA md fr cs cn ck ch tb cr, wMX cA md fx fv sn, wMB cA md be tr wy, wMH cA md (grV be bu) pr, poolE cA ad (bTb X) (fun _ => false) k]) (wf_split (n := 14) (C := [wC cA x (pg 0) (bt 0) (se 0) (qr 0) (hd 0) so, wS cA se tbf (bSp X) (bSg X), wP cA pg kd lo hi co pa rk nu ct sa ((nc : Nat) : Int) ((nr : Nat) : Int), wB cA bt (bBs X).1 (bBs X).2.1 (bBs X).2.2.1 (bBs X).2.2.2, wQ cA qr (tq 0) ql qc, wTS cA tq n1 S, wH cA hd (grV (bBs X).1 (bBs X).2.2.1) pr (Int.tdiv (bBs X).2.2.1 ((gbZ (bBs X).1 (bBs X).2.2.1 5 : Nat) : Int)) qu, wMP cA md kd lo hi co pa rk nu ct sa, wME cA md fr cs cn ck ch tb cr, wMX cA md fx fv sn, poolE cA ad (bTb X) (fun _ => false) k]) (R := [wMO cA md ((nc : Nat) : Int) ((nr : Nat) : Int) ke so bu bc (Int.tdiv bu ((gbZ be bu 5 : Nat) : Int)) qu fs cd un hb pf ef, wMB cA md be tr wy, wMH cA md (grV be bu) pr]) [0, 1, 2, 3, 4, 5, 6, 8, 9, 10, 13, 7, 11, 12] rfl (by decide) rfl).symm ?_
    refine g_eq (st' := [jv (Int.tdiv bu ((gbZ be bu 5 : Nat) : Int)), jv (Int.tdiv (bBs X).2.2.1 ((gbZ (bBs X).1 (bBs X).2.2.1 5 : Nat) : Int))]) rfl rfl rfl ?_
    rw [← hgr.2]
    refine g_acongJ 53 (grV (bBs X).1 (bBs X).2.2.1) rfl (fun j hj => (hgr.1 j hj).symm) (wfl [wC cA x (pg 0) (bt 0) (se 0) (qr 0) (hd 0) so, wS cA se tbf (bSp X) (bSg X), wP cA pg kd lo hi co pa rk nu ct sa ((nc : Nat) : Int) ((nr : Nat) : Int), wB cA bt (bBs X).1 (bBs X).2.1 (bBs X).2.2.1 (bBs X).2.2.2, wQ cA qr (tq 0) ql qc, wTS cA tq n1 S, wH cA hd (grV (bBs X).1 (bBs X).2.2.1) pr (Int.tdiv (bBs X).2.2.1 ((gbZ (bBs X).1 (bBs X).2.2.1 5 : Nat) : Int)) qu, wMO cA md ((nc : Nat) : Int) ((nr : Nat) : Int) ke so bu bc (Int.tdiv (bBs X).2.2.1 ((gbZ (bBs X).1 (bBs X).2.2.1 5 : Nat) : Int)) qu fs cd un hb pf ef, wMP cA md kd lo hi co pa rk nu ct sa, wME cA md fr cs cn ck ch tb cr, wMX cA md fx fv sn, wMB cA md be tr wy, wMH cA md (grV (bBs X).1 (bBs X).2.2.1) pr, poolE cA ad (bTb X) (fun _ => false) k]) rfl ?_
    refine g_leq F (tgt := 887) (rfl) dL_law_742 dL_law_743 (by decide) ?_
    refine g_widen (kc + 364) (ks + 8112) (by omega) (by omega) ?_
    exact hk kd lo hi co pa rk nu ct sa nc nr so X k ad tbf ql qc n1 S (grV (bBs X).1 (bBs X).2.2.1) pr (Int.tdiv (bBs X).2.2.1 ((gbZ (bBs X).1 (bBs X).2.2.1 5 : Nat) : Int)) qu ke bu bc fs cd un hb pf ef fr cs cn ck ch tb cr fx fv sn be tr wy (⟨hI.1, hI.2.1, hI.2.2.1, ⟨hgb.1, hgb.2, hpr, hqb⟩, hI.2.2.2.2⟩)
  · have hc2 : ¬ ke = 0 := fun z => hc (hrel.1.mpr z)
    refine g_aload_n F 1 rfl rfl dL_law_734 ?_
    refine g_callVP F (As := []) (rest := []) (wr := wfl [wS cA se tbf (bSp X) (bSg X), wP cA pg kd lo hi co pa rk nu ct sa ((nc : Nat) : Int) ((nr : Nat) : Int), wQ cA qr (tq 0) ql qc, wTS cA tq n1 S, wMO cA md ((nc : Nat) : Int) ((nr : Nat) : Int) ke so bu bc pu qu fs cd un hb pf ef, wMP cA md kd lo hi co pa rk nu ct sa, wME cA md fr cs cn ck ch tb cr, wMX cA md fx fv sn, wMB cA md be tr wy, wMH cA md pl pr, poolE cA ad (bTb X) (fun _ => false) k]) (kX6_take l D cA x (pg 0) (se 0) (qr 0) so hd pl pr pu qu bt (bBs X).1 (bBs X).2.1 (bBs X).2.2.1 (bBs X).2.2.2 (by first | assumption | omega) (by first | assumption | omega) (by first | assumption | omega) (by first | assumption | omega)) (cwV 0 F.2.2.2.2.1 gL_law_X6_take rfl rfl rfl (by decide +kernel) ⟨(Nat.le_of_ble_eq_true rfl), (Nat.le_of_ble_eq_true rfl)⟩) rfl rfl (q0 := 0) rfl (wf_split (n := 14) (C := [wC cA x (pg 0) (bt 0) (se 0) (qr 0) (hd 0) so, wH cA hd pl pr pu qu, wB cA bt (bBs X).1 (bBs X).2.1 (bBs X).2.2.1 (bBs X).2.2.2]) (R := [wS cA se tbf (bSp X) (bSg X), wP cA pg kd lo hi co pa rk nu ct sa ((nc : Nat) : Int) ((nr : Nat) : Int), wQ cA qr (tq 0) ql qc, wTS cA tq n1 S, wMO cA md ((nc : Nat) : Int) ((nr : Nat) : Int) ke so bu bc pu qu fs cd un hb pf ef, wMP cA md kd lo hi co pa rk nu ct sa, wME cA md fr cs cn ck ch tb cr, wMX cA md fx fv sn, wMB cA md be tr wy, wMH cA md pl pr, poolE cA ad (bTb X) (fun _ => false) k]) [0, 6, 3, 1, 2, 4, 5, 7, 8, 9, 10, 11, 12, 13] rfl (by decide) rfl) rfl rfl (Nat.le_of_ble_eq_true rfl) ⟨by show kc + 0 ≤ 600000; omega, by show ks + 0 ≤ 7302250; omega⟩ hA dL_law_735 (fun v w hv => ?_)
    obtain ⟨hv, hw⟩ := hv
    rw [if_neg hc] at hv
    rw [if_neg hc] at hw
    subst hv
    subst hw
    refine g_perm (wfl [wC cA x (pg 0) (bt 0) (se 0) (qr 0) (hd 0) so, wS cA se tbf (bSp X) (bSg X), wP cA pg kd lo hi co pa rk nu ct sa ((nc : Nat) : Int) ((nr : Nat) : Int), wB cA bt (bBs X).1 (bBs X).2.1 (bBs X).2.2.1 (bBs X).2.2.2, wQ cA qr (tq 0) ql qc, wTS cA tq n1 S, wH cA hd pl pr pu qu, wMO cA md ((nc : Nat) : Int) ((nr : Nat) : Int) ke so bu bc pu qu fs cd un hb pf ef, wMP cA md kd lo hi co pa rk nu ct sa, wME cA md fr cs cn ck ch tb cr, wMX cA md fx fv sn, wMB cA md be tr wy, wMH cA md pl pr, poolE cA ad (bTb X) (fun _ => false) k]) (wf_split (n := 14) (C := [wS cA se tbf (bSp X) (bSg X), wP cA pg kd lo hi co pa rk nu ct sa ((nc : Nat) : Int) ((nr : Nat) : Int), wQ cA qr (tq 0) ql qc, wTS cA tq n1 S, wMO cA md ((nc : Nat) : Int) ((nr : Nat) : Int) ke so bu bc pu qu fs cd un hb pf ef, wMP cA md kd lo hi co pa rk nu ct sa, wME cA md fr cs cn ck ch tb cr, wMX cA md fx fv sn, wMB cA md be tr wy, wMH cA md pl pr, poolE cA ad (bTb X) (fun _ => false) k]) (R := [wC cA x (pg 0) (bt 0) (se 0) (qr 0) (hd 0) so, wH cA hd pl pr pu qu, wB cA bt (bBs X).1 (bBs X).2.1 (bBs X).2.2.1 (bBs X).2.2.2]) [1, 2, 4, 5, 7, 8, 9, 10, 11, 12, 13, 0, 6, 3] rfl (by decide) rfl).symm ?_
    refine g_eq (st' := [jv (-2000000002)]) rfl rfl rfl ?_
    refine g_aload_n F 2 rfl rfl dL_law_738 ?_
    refine g_callVP F (As := []) (rest := [jv (-2000000002)]) (wr := wfl [wC cA x (pg 0) (bt 0) (se 0) (qr 0) (hd 0) so, wS cA se tbf (bSp X) (bSg X), wP cA pg kd lo hi co pa rk nu ct sa ((nc : Nat) : Int) ((nr : Nat) : Int), wB cA bt (bBs X).1 (bBs X).2.1 (bBs X).2.2.1 (bBs X).2.2.2, wQ cA qr (tq 0) ql qc, wTS cA tq n1 S, wH cA hd pl pr pu qu, wMP cA md kd lo hi co pa rk nu ct sa, wME cA md fr cs cn ck ch tb cr, wMX cA md fx fv sn, poolE cA ad (bTb X) (fun _ => false) k]) (kX7_take l D cA md nc nr ke so bu bc pu qu fs cd un hb pf ef be tr wy pl pr (by first | assumption | omega) (by first | assumption | omega) (by first | assumption | omega)) (cwV 0 F.2.2.2.2.1 gL_law_X7_take rfl rfl rfl (by decide +kernel) ⟨(Nat.le_of_ble_eq_true rfl), (Nat.le_of_ble_eq_true rfl)⟩) rfl rfl (q0 := 0) rfl (wf_split (n := 14) (C := [wMO cA md ((nc : Nat) : Int) ((nr : Nat) : Int) ke so bu bc pu qu fs cd un hb pf ef, wMB cA md be tr wy, wMH cA md pl pr]) (R := [wC cA x (pg 0) (bt 0) (se 0) (qr 0) (hd 0) so, wS cA se tbf (bSp X) (bSg X), wP cA pg kd lo hi co pa rk nu ct sa ((nc : Nat) : Int) ((nr : Nat) : Int), wB cA bt (bBs X).1 (bBs X).2.1 (bBs X).2.2.1 (bBs X).2.2.2, wQ cA qr (tq 0) ql qc, wTS cA tq n1 S, wH cA hd pl pr pu qu, wMP cA md kd lo hi co pa rk nu ct sa, wME cA md fr cs cn ck ch tb cr, wMX cA md fx fv sn, poolE cA ad (bTb X) (fun _ => false) k]) [7, 11, 12, 0, 1, 2, 3, 4, 5, 6, 8, 9, 10, 13] rfl (by decide) rfl) rfl rfl (Nat.le_of_ble_eq_true rfl) ⟨by show kc + 0 ≤ 600000; omega, by show ks + 0 ≤ 7302250; omega⟩ hA dL_law_739 (fun v w hv => ?_)
    obtain ⟨hv, hw⟩ := hv
    rw [if_neg hc2] at hv
    rw [if_neg hc2] at hw
    subst hv
    subst hw
    refine g_perm (wfl [wC cA x (pg 0) (bt 0) (se 0) (qr 0) (hd 0) so, wS cA se tbf (bSp X) (bSg X), wP cA pg kd lo hi co pa rk nu ct sa ((nc : Nat) : Int) ((nr : Nat) : Int), wB cA bt (bBs X).1 (bBs X).2.1 (bBs X).2.2.1 (bBs X).2.2.2, wQ cA qr (tq 0) ql qc, wTS cA tq n1 S, wH cA hd pl pr pu qu, wMO cA md ((nc : Nat) : Int) ((nr : Nat) : Int) ke so bu bc pu qu fs cd un hb pf ef, wMP cA md kd lo hi co pa rk nu ct sa, wME cA md fr cs cn ck ch tb cr, wMX cA md fx fv sn, wMB cA md be tr wy, wMH cA md pl pr, poolE cA ad (bTb X) (fun _ => false) k]) (wf_split (n := 14) (C := [wC cA x (pg 0) (bt 0) (se 0) (qr 0) (hd 0) so, wS cA se tbf (bSp X) (bSg X), wP cA pg kd lo hi co pa rk nu ct sa ((nc : Nat) : Int) ((nr : Nat) : Int), wB cA bt (bBs X).1 (bBs X).2.1 (bBs X).2.2.1 (bBs X).2.2.2, wQ cA qr (tq 0) ql qc, wTS cA tq n1 S, wH cA hd pl pr pu qu, wMP cA md kd lo hi co pa rk nu ct sa, wME cA md fr cs cn ck ch tb cr, wMX cA md fx fv sn, poolE cA ad (bTb X) (fun _ => false) k]) (R := [wMO cA md ((nc : Nat) : Int) ((nr : Nat) : Int) ke so bu bc pu qu fs cd un hb pf ef, wMB cA md be tr wy, wMH cA md pl pr]) [0, 1, 2, 3, 4, 5, 6, 8, 9, 10, 13, 7, 11, 12] rfl (by decide) rfl).symm ?_
    refine g_eq (st' := [jv (-2000000002), jv (-2000000002)]) rfl rfl rfl ?_
    refine g_leq F (tgt := 887) (rfl) dL_law_742 dL_law_743 (by decide) ?_
    refine g_widen (kc + 364) (ks + 8112) (by omega) (by omega) ?_
    exact hk kd lo hi co pa rk nu ct sa nc nr so X k ad tbf ql qc n1 S pl pr pu qu ke bu bc fs cd un hb pf ef fr cs cn ck ch tb cr fx fv sn be tr wy (hI)

set_option maxHeartbeats 4000000 in
set_option maxRecDepth 100000 in
theorem lc_solve {p : Program} {l : Launch} {e : Env} {s : State} {m : MethodId} {below : List Frame} {meth : Method} {c : Code} {Q : State → Prop} {D : va_G} {cA : Nat → ClassId} {A : Nat → Prop} {sb Ln : Nat} {xs : Nat → Int32} {x se pg bt qr tq hd md : Nat → Nat} (F : Fx p s m #[Value.ref sb] meth c cL_law 4 RL wsL_law ret D cA) (hA : ∀ q, s.heap.size ≤ q → A q) (hX : va_X sb Ln xs s s.heap) (hbl : sb < s.heap.size) (hbA : ¬ A sb) (hL : Ln ≤ 2048) (i : Nat) (hi : i + 4 ≤ Ln) (kc ks : Nat) (hkc : kc + 364 ≤ 600000 ∧ ks + 8112 ≤ 7302250) (hk : lwN p l e s m sb below meth c Q D cA A x se pg bt qr tq hd md i (kc + 364) (ks + 8112) 887) : lwN p l e s m sb below meth c Q D cA A x se pg bt qr tq hd md i kc ks 541 := by
  intro kd lo hi co pa rk nu ct sa nc nr so X k ad tbf ql qc n1 S pl pr pu qu ke bu bc fs cd un hb pf ef fr cs cn ck ch tb cr fx fv sn be tr wy hI
  obtain ⟨hpr0, ⟨hS, hbd, hbo, hk51, ht1, ht2, h00⟩, ⟨hSq, hzq⟩, ⟨hpl, hpb, hpr, hqb⟩, ⟨hbm, hke⟩, hrel⟩ := id hI
  obtain ⟨hP, hR, hco, hpa5, hpaN, hle, zs, zc⟩ := id hpr0
  have qnc := hP.1
  have qkd := hP.2.1
  have qlo := hP.2.2.1
  have qhi : ∀ j, hi j = -2000000005 ∨ (-20 ≤ hi j ∧ hi j ≤ 20) := hP.2.2.2.1
  have qnr := hR.1
  have qrk := hR.2.1
  have qnu := hR.2.2.1
  have qnu2 : ∀ j, -198 ≤ nu j ∧ nu j ≤ 198 := fun j => by have := qnu j; omega
  have qsa := hR.2.2.2.1
  have qct := hR.2.2.2.2
  have hbb := hbd.1
  have hbc9 := hbd.2.1
  have hbv := hbd.2.2
  have hbu9 : 0 < bu ∧ bu ≤ 8000000 := hbm.1
  have hbcm : -200000000000 ≤ bc ∧ bc ≤ 200000000000 := hbm.2.1
  have hbem : ∀ j, -200000000000 ≤ be j ∧ be j ≤ 200000000000 := hbm.2.2
  have hpb1 : 1 ≤ pu ∧ pu ≤ 2000000000 := by omega
  have hV := @IM_P D s A
  have hz1 : -2147483648 ≤ (xs (i + 1)).toInt ∧ (xs (i + 1)).toInt ≤ 2147483647 := i32_rng _
  have hz2 : -2147483648 ≤ (xs (i + 2)).toInt ∧ (xs (i + 2)).toInt ≤ 2147483647 := i32_rng _
  have hz3 : -2147483648 ≤ (xs (i + 3)).toInt ∧ (xs (i + 3)).toInt ≤ 2147483647 := i32_rng _
  obtain ⟨z1, hz1e⟩ : ∃ z, z = (xs (i + 1)).toInt := ⟨_, rfl⟩
  obtain ⟨z2, hz2e⟩ : ∃ z, z = (xs (i + 2)).toInt := ⟨_, rfl⟩
  obtain ⟨z3, hz3e⟩ : ∃ z, z = (xs (i + 3)).toInt := ⟨_, rfl⟩
  rw [← hz1e] at hz1
  rw [← hz2e] at hz2
  rw [← hz3e] at hz3
  by_cases hc : z1 = 0 ∨ z1 = 1
  · skip
    refine g_aload_n F 1 rfl rfl dL_law_541 ?_
    refine g_aload_n F 0 rfl rfl dL_law_542 ?_
    refine g_iload_n F 3 rfl rfl dL_law_543 ?_
    refine g_iconst F dL_law_544 ?_
    refine g_iadd F dL_law_545 ?_
    refine g_sld F hX hbl hbA (i + 1) (by omega) (by omega) (by omega) dL_law_546 ?_
    rw [← hz1e]
    refine g_callVP F (As := [iv z1]) (rest := []) (wr := wfl [wQ cA qr (tq 0) ql qc, wTS cA tq n1 S, wH cA hd pl pr pu qu, wMO cA md ((nc : Nat) : Int) ((nr : Nat) : Int) ke so bu bc pu qu fs cd un hb pf ef, wMP cA md kd lo hi co pa rk nu ct sa, wME cA md fr cs cn ck ch tb cr, wMX cA md fx fv sn, wMB cA md be tr wy, wMH cA md pl pr]) (kX6_solve l D cA x (qr 0) (hd 0) so se pg kd lo hi co pa rk nu ct sa nc nr bt X k ad tbf z1 (by first | assumption | omega) (by first | assumption | omega) (by first | assumption | omega) (by first | assumption | omega) (by first | assumption | omega) (by first | assumption | omega) (by first | assumption | omega) (by first | assumption | omega) (by first | assumption | omega) (by first | assumption | omega) (by first | assumption | omega)) (cwV 1 F.2.2.2.2.1 gL_law_X6_solve rfl rfl rfl (by decide +kernel) ⟨(Nat.le_of_ble_eq_true rfl), (Nat.le_of_ble_eq_true rfl)⟩) rfl rfl (q0 := 0) rfl (wf_split (n := 14) (C := [wC cA x (pg 0) (bt 0) (se 0) (qr 0) (hd 0) so, wS cA se tbf (bSp X) (bSg X), wP cA pg kd lo hi co pa rk nu ct sa ((nc : Nat) : Int) ((nr : Nat) : Int), wB cA bt (bBs X).1 (bBs X).2.1 (bBs X).2.2.1 (bBs X).2.2.2, poolE cA ad (bTb X) (fun _ => false) k]) (R := [wQ cA qr (tq 0) ql qc, wTS cA tq n1 S, wH cA hd pl pr pu qu, wMO cA md ((nc : Nat) : Int) ((nr : Nat) : Int) ke so bu bc pu qu fs cd un hb pf ef, wMP cA md kd lo hi co pa rk nu ct sa, wME cA md fr cs cn ck ch tb cr, wMX cA md fx fv sn, wMB cA md be tr wy, wMH cA md pl pr]) [0, 1, 2, 3, 13, 4, 5, 6, 7, 8, 9, 10, 11, 12] rfl (by decide) rfl) rfl rfl (Nat.le_of_ble_eq_true rfl) ⟨by show kc + 364 ≤ 600000; omega, by show ks + 8112 ≤ 7302250; omega⟩ hA dL_law_547 (fun v w hv => ?_)
    rcases hv with hv | ⟨-, hv, k2, ad2, tb2, y1, y2, y3, y4, y5, y6, hw⟩
    · exact absurd hc hv.1
    subst hv
    subst hw
    refine g_perm (wfl [wC cA x (pg 0) (bt 0) (se 0) (qr 0) (hd 0) (so + 1), wS cA se tb2 (bSp (runT kd pa lo hi co rk nu ct sa nc nr (-2000000005) (0) (decide (z1 = 0)) X)) (bSg (runT kd pa lo hi co rk nu ct sa nc nr (-2000000005) (0) (decide (z1 = 0)) X)), wP cA pg kd lo hi co pa rk nu ct sa ((nc : Nat) : Int) ((nr : Nat) : Int), wB cA bt (bBs (runT kd pa lo hi co rk nu ct sa nc nr (-2000000005) (0) (decide (z1 = 0)) X)).1 (bBs (runT kd pa lo hi co rk nu ct sa nc nr (-2000000005) (0) (decide (z1 = 0)) X)).2.1 (bBs (runT kd pa lo hi co rk nu ct sa nc nr (-2000000005) (0) (decide (z1 = 0)) X)).2.2.1 (bBs (runT kd pa lo hi co rk nu ct sa nc nr (-2000000005) (0) (decide (z1 = 0)) X)).2.2.2, wQ cA qr (tq 0) ql qc, wTS cA tq n1 S, wH cA hd pl pr pu qu, wMO cA md ((nc : Nat) : Int) ((nr : Nat) : Int) ke so bu bc pu qu fs cd un hb pf ef, wMP cA md kd lo hi co pa rk nu ct sa, wME cA md fr cs cn ck ch tb cr, wMX cA md fx fv sn, wMB cA md be tr wy, wMH cA md pl pr, poolE cA ad2 (bTb (runT kd pa lo hi co rk nu ct sa nc nr (-2000000005) (0) (decide (z1 = 0)) X)) (fun _ => false) k2]) (wf_split (n := 14) (C := [wQ cA qr (tq 0) ql qc, wTS cA tq n1 S, wH cA hd pl pr pu qu, wMO cA md ((nc : Nat) : Int) ((nr : Nat) : Int) ke so bu bc pu qu fs cd un hb pf ef, wMP cA md kd lo hi co pa rk nu ct sa, wME cA md fr cs cn ck ch tb cr, wMX cA md fx fv sn, wMB cA md be tr wy, wMH cA md pl pr]) (R := [wC cA x (pg 0) (bt 0) (se 0) (qr 0) (hd 0) (so + 1), wS cA se tb2 (bSp (runT kd pa lo hi co rk nu ct sa nc nr (-2000000005) (0) (decide (z1 = 0)) X)) (bSg (runT kd pa lo hi co rk nu ct sa nc nr (-2000000005) (0) (decide (z1 = 0)) X)), wP cA pg kd lo hi co pa rk nu ct sa ((nc : Nat) : Int) ((nr : Nat) : Int), wB cA bt (bBs (runT kd pa lo hi co rk nu ct sa nc nr (-2000000005) (0) (decide (z1 = 0)) X)).1 (bBs (runT kd pa lo hi co rk nu ct sa nc nr (-2000000005) (0) (decide (z1 = 0)) X)).2.1 (bBs (runT kd pa lo hi co rk nu ct sa nc nr (-2000000005) (0) (decide (z1 = 0)) X)).2.2.1 (bBs (runT kd pa lo hi co rk nu ct sa nc nr (-2000000005) (0) (decide (z1 = 0)) X)).2.2.2, poolE cA ad2 (bTb (runT kd pa lo hi co rk nu ct sa nc nr (-2000000005) (0) (decide (z1 = 0)) X)) (fun _ => false) k2]) [4, 5, 6, 7, 8, 9, 10, 11, 12, 0, 1, 2, 3, 13] rfl (by decide) rfl).symm ?_
    refine g_eq (st' := [iv (bBs (runT kd pa lo hi co rk nu ct sa nc nr (-2000000005) (0) (decide (z1 = 0)) X)).2.2.2]) rfl rfl rfl ?_
    refine g_aload_n F 2 rfl rfl dL_law_550 ?_
    refine g_aload_n F 0 rfl rfl dL_law_551 ?_
    refine g_iload_n F 3 rfl rfl dL_law_552 ?_
    refine g_iconst F dL_law_553 ?_
    refine g_iadd F dL_law_554 ?_
    refine g_sld F hX hbl hbA (i + 1) (by omega) (by omega) (by omega) dL_law_555 ?_
    rw [← hz1e]
    refine g_callVP F (As := [iv z1]) (rest := [iv (bBs (runT kd pa lo hi co rk nu ct sa nc nr (-2000000005) (0) (decide (z1 = 0)) X)).2.2.2]) (wr := wfl [wC cA x (pg 0) (bt 0) (se 0) (qr 0) (hd 0) (so + 1), wS cA se tb2 (bSp (runT kd pa lo hi co rk nu ct sa nc nr (-2000000005) (0) (decide (z1 = 0)) X)) (bSg (runT kd pa lo hi co rk nu ct sa nc nr (-2000000005) (0) (decide (z1 = 0)) X)), wP cA pg kd lo hi co pa rk nu ct sa ((nc : Nat) : Int) ((nr : Nat) : Int), wB cA bt (bBs (runT kd pa lo hi co rk nu ct sa nc nr (-2000000005) (0) (decide (z1 = 0)) X)).1 (bBs (runT kd pa lo hi co rk nu ct sa nc nr (-2000000005) (0) (decide (z1 = 0)) X)).2.1 (bBs (runT kd pa lo hi co rk nu ct sa nc nr (-2000000005) (0) (decide (z1 = 0)) X)).2.2.1 (bBs (runT kd pa lo hi co rk nu ct sa nc nr (-2000000005) (0) (decide (z1 = 0)) X)).2.2.2, wQ cA qr (tq 0) ql qc, wTS cA tq n1 S, wH cA hd pl pr pu qu, wMH cA md pl pr, poolE cA ad2 (bTb (runT kd pa lo hi co rk nu ct sa nc nr (-2000000005) (0) (decide (z1 = 0)) X)) (fun _ => false) k2]) (kX7_solve l D cA md nc nr ke so bu bc pu qu fs cd un hb pf ef kd lo hi co pa rk nu ct sa fr cs cn ck ch tb cr fx fv sn be tr wy z1 (by first | assumption | omega) (by first | assumption | omega) (by first | assumption | omega) (by first | assumption | omega) (by first | assumption | omega) (by first | assumption | omega) (by first | assumption | omega) (by first | assumption | omega) (by first | assumption | omega) (by first | assumption | omega)) (cwV 1 F.2.2.2.2.1 gL_law_X7_solve rfl rfl rfl (by decide +kernel) ⟨(Nat.le_of_ble_eq_true rfl), (Nat.le_of_ble_eq_true rfl)⟩) rfl rfl (q0 := 0) rfl (wf_split (n := 14) (C := [wMO cA md ((nc : Nat) : Int) ((nr : Nat) : Int) ke so bu bc pu qu fs cd un hb pf ef, wMP cA md kd lo hi co pa rk nu ct sa, wME cA md fr cs cn ck ch tb cr, wMX cA md fx fv sn, wMB cA md be tr wy]) (R := [wC cA x (pg 0) (bt 0) (se 0) (qr 0) (hd 0) (so + 1), wS cA se tb2 (bSp (runT kd pa lo hi co rk nu ct sa nc nr (-2000000005) (0) (decide (z1 = 0)) X)) (bSg (runT kd pa lo hi co rk nu ct sa nc nr (-2000000005) (0) (decide (z1 = 0)) X)), wP cA pg kd lo hi co pa rk nu ct sa ((nc : Nat) : Int) ((nr : Nat) : Int), wB cA bt (bBs (runT kd pa lo hi co rk nu ct sa nc nr (-2000000005) (0) (decide (z1 = 0)) X)).1 (bBs (runT kd pa lo hi co rk nu ct sa nc nr (-2000000005) (0) (decide (z1 = 0)) X)).2.1 (bBs (runT kd pa lo hi co rk nu ct sa nc nr (-2000000005) (0) (decide (z1 = 0)) X)).2.2.1 (bBs (runT kd pa lo hi co rk nu ct sa nc nr (-2000000005) (0) (decide (z1 = 0)) X)).2.2.2, wQ cA qr (tq 0) ql qc, wTS cA tq n1 S, wH cA hd pl pr pu qu, wMH cA md pl pr, poolE cA ad2 (bTb (runT kd pa lo hi co rk nu ct sa nc nr (-2000000005) (0) (decide (z1 = 0)) X)) (fun _ => false) k2]) [7, 8, 9, 10, 11, 0, 1, 2, 3, 4, 5, 6, 12, 13] rfl (by decide) rfl) rfl rfl (Nat.le_of_ble_eq_true rfl) ⟨by show kc + 364 + 0 ≤ 600000; omega, by show ks + 8112 + 0 ≤ 7302250; omega⟩ hA dL_law_556 (fun v w hv => ?_)
    obtain ⟨a9, ke9, so9, sn9, fx9, fv9, fr9, fs9, cs9, cn9, ck9, cd9, ch9, tb9, cr9, un9, tr9, be9, bc9, bu9, hb9, wy9, pf9, ef9, hH, hv, hw⟩ := hv
    subst hv
    subst hw
    rcases hH with hH | ⟨-, e1, e2, hsem, htl⟩
    · exact absurd hc hH.1
    subst e1
    subst e2
    have hfin := sol_step hI (show (-99 : Int) ≤ 0 ∧ (0 : Int) ≤ 99 by omega) ⟨y1, y3⟩ y4 y5 hsem htl
    refine g_perm (wfl [wC cA x (pg 0) (bt 0) (se 0) (qr 0) (hd 0) (so + 1), wS cA se tb2 (bSp (runT kd pa lo hi co rk nu ct sa nc nr (-2000000005) (0) (decide (z1 = 0)) X)) (bSg (runT kd pa lo hi co rk nu ct sa nc nr (-2000000005) (0) (decide (z1 = 0)) X)), wP cA pg kd lo hi co pa rk nu ct sa ((nc : Nat) : Int) ((nr : Nat) : Int), wB cA bt (bBs (runT kd pa lo hi co rk nu ct sa nc nr (-2000000005) (0) (decide (z1 = 0)) X)).1 (bBs (runT kd pa lo hi co rk nu ct sa nc nr (-2000000005) (0) (decide (z1 = 0)) X)).2.1 (bBs (runT kd pa lo hi co rk nu ct sa nc nr (-2000000005) (0) (decide (z1 = 0)) X)).2.2.1 (bBs (runT kd pa lo hi co rk nu ct sa nc nr (-2000000005) (0) (decide (z1 = 0)) X)).2.2.2, wQ cA qr (tq 0) ql qc, wTS cA tq n1 S, wH cA hd pl pr pu qu, wMO cA md ((nc : Nat) : Int) ((nr : Nat) : Int) a9 (so + 1) bu9 bc9 pu qu fs9 cd9 un9 hb9 pf9 ef9, wMP cA md kd lo hi co pa rk nu ct sa, wME cA md fr9 cs9 cn9 ck9 ch9 tb9 cr9, wMX cA md fx9 fv9 sn9, wMB cA md be9 tr9 wy9, wMH cA md pl pr, poolE cA ad2 (bTb (runT kd pa lo hi co rk nu ct sa nc nr (-2000000005) (0) (decide (z1 = 0)) X)) (fun _ => false) k2]) (wf_split (n := 14) (C := [wC cA x (pg 0) (bt 0) (se 0) (qr 0) (hd 0) (so + 1), wS cA se tb2 (bSp (runT kd pa lo hi co rk nu ct sa nc nr (-2000000005) (0) (decide (z1 = 0)) X)) (bSg (runT kd pa lo hi co rk nu ct sa nc nr (-2000000005) (0) (decide (z1 = 0)) X)), wP cA pg kd lo hi co pa rk nu ct sa ((nc : Nat) : Int) ((nr : Nat) : Int), wB cA bt (bBs (runT kd pa lo hi co rk nu ct sa nc nr (-2000000005) (0) (decide (z1 = 0)) X)).1 (bBs (runT kd pa lo hi co rk nu ct sa nc nr (-2000000005) (0) (decide (z1 = 0)) X)).2.1 (bBs (runT kd pa lo hi co rk nu ct sa nc nr (-2000000005) (0) (decide (z1 = 0)) X)).2.2.1 (bBs (runT kd pa lo hi co rk nu ct sa nc nr (-2000000005) (0) (decide (z1 = 0)) X)).2.2.2, wQ cA qr (tq 0) ql qc, wTS cA tq n1 S, wH cA hd pl pr pu qu, wMH cA md pl pr, poolE cA ad2 (bTb (runT kd pa lo hi co rk nu ct sa nc nr (-2000000005) (0) (decide (z1 = 0)) X)) (fun _ => false) k2]) (R := [wMO cA md ((nc : Nat) : Int) ((nr : Nat) : Int) a9 (so + 1) bu9 bc9 pu qu fs9 cd9 un9 hb9 pf9 ef9, wMP cA md kd lo hi co pa rk nu ct sa, wME cA md fr9 cs9 cn9 ck9 ch9 tb9 cr9, wMX cA md fx9 fv9 sn9, wMB cA md be9 tr9 wy9]) [0, 1, 2, 3, 4, 5, 6, 12, 13, 7, 8, 9, 10, 11] rfl (by decide) rfl).symm ?_
    refine g_eq (st' := [iv a9, iv (bBs (runT kd pa lo hi co rk nu ct sa nc nr (-2000000005) (0) (decide (z1 = 0)) X)).2.2.2]) rfl rfl rfl ?_
    refine g_ieq F (tgt := 887) (hfin.1) dL_law_559 (by decide) ?_
    exact hk kd lo hi co pa rk nu ct sa nc nr (so + 1) (runT kd pa lo hi co rk nu ct sa nc nr (-2000000005) (0) (decide (z1 = 0)) X) k2 ad2 tb2 ql qc n1 S pl pr pu qu a9 bu9 bc9 fs9 cd9 un9 hb9 pf9 ef9 fr9 cs9 cn9 ck9 ch9 tb9 cr9 fx9 fv9 sn9 be9 tr9 wy9 (hfin.2)
  · skip
    refine g_aload_n F 1 rfl rfl dL_law_541 ?_
    refine g_aload_n F 0 rfl rfl dL_law_542 ?_
    refine g_iload_n F 3 rfl rfl dL_law_543 ?_
    refine g_iconst F dL_law_544 ?_
    refine g_iadd F dL_law_545 ?_
    refine g_sld F hX hbl hbA (i + 1) (by omega) (by omega) (by omega) dL_law_546 ?_
    rw [← hz1e]
    refine g_callVP F (As := [iv z1]) (rest := []) (wr := wfl [wQ cA qr (tq 0) ql qc, wTS cA tq n1 S, wH cA hd pl pr pu qu, wMO cA md ((nc : Nat) : Int) ((nr : Nat) : Int) ke so bu bc pu qu fs cd un hb pf ef, wMP cA md kd lo hi co pa rk nu ct sa, wME cA md fr cs cn ck ch tb cr, wMX cA md fx fv sn, wMB cA md be tr wy, wMH cA md pl pr]) (kX6_solve l D cA x (qr 0) (hd 0) so se pg kd lo hi co pa rk nu ct sa nc nr bt X k ad tbf z1 (by first | assumption | omega) (by first | assumption | omega) (by first | assumption | omega) (by first | assumption | omega) (by first | assumption | omega) (by first | assumption | omega) (by first | assumption | omega) (by first | assumption | omega) (by first | assumption | omega) (by first | assumption | omega) (by first | assumption | omega)) (cwV 1 F.2.2.2.2.1 gL_law_X6_solve rfl rfl rfl (by decide +kernel) ⟨(Nat.le_of_ble_eq_true rfl), (Nat.le_of_ble_eq_true rfl)⟩) rfl rfl (q0 := 0) rfl (wf_split (n := 14) (C := [wC cA x (pg 0) (bt 0) (se 0) (qr 0) (hd 0) so, wS cA se tbf (bSp X) (bSg X), wP cA pg kd lo hi co pa rk nu ct sa ((nc : Nat) : Int) ((nr : Nat) : Int), wB cA bt (bBs X).1 (bBs X).2.1 (bBs X).2.2.1 (bBs X).2.2.2, poolE cA ad (bTb X) (fun _ => false) k]) (R := [wQ cA qr (tq 0) ql qc, wTS cA tq n1 S, wH cA hd pl pr pu qu, wMO cA md ((nc : Nat) : Int) ((nr : Nat) : Int) ke so bu bc pu qu fs cd un hb pf ef, wMP cA md kd lo hi co pa rk nu ct sa, wME cA md fr cs cn ck ch tb cr, wMX cA md fx fv sn, wMB cA md be tr wy, wMH cA md pl pr]) [0, 1, 2, 3, 13, 4, 5, 6, 7, 8, 9, 10, 11, 12] rfl (by decide) rfl) rfl rfl (Nat.le_of_ble_eq_true rfl) ⟨by show kc + 364 ≤ 600000; omega, by show ks + 8112 ≤ 7302250; omega⟩ hA dL_law_547 (fun v w hv => ?_)
    rcases hv with ⟨-, hv, hw⟩ | hv
    rotate_left
    · exact absurd hv.1 hc
    subst hv
    subst hw
    refine g_perm (wfl [wC cA x (pg 0) (bt 0) (se 0) (qr 0) (hd 0) so, wS cA se tbf (bSp X) (bSg X), wP cA pg kd lo hi co pa rk nu ct sa ((nc : Nat) : Int) ((nr : Nat) : Int), wB cA bt (bBs X).1 (bBs X).2.1 (bBs X).2.2.1 (bBs X).2.2.2, wQ cA qr (tq 0) ql qc, wTS cA tq n1 S, wH cA hd pl pr pu qu, wMO cA md ((nc : Nat) : Int) ((nr : Nat) : Int) ke so bu bc pu qu fs cd un hb pf ef, wMP cA md kd lo hi co pa rk nu ct sa, wME cA md fr cs cn ck ch tb cr, wMX cA md fx fv sn, wMB cA md be tr wy, wMH cA md pl pr, poolE cA ad (bTb X) (fun _ => false) k]) (wf_split (n := 14) (C := [wQ cA qr (tq 0) ql qc, wTS cA tq n1 S, wH cA hd pl pr pu qu, wMO cA md ((nc : Nat) : Int) ((nr : Nat) : Int) ke so bu bc pu qu fs cd un hb pf ef, wMP cA md kd lo hi co pa rk nu ct sa, wME cA md fr cs cn ck ch tb cr, wMX cA md fx fv sn, wMB cA md be tr wy, wMH cA md pl pr]) (R := [wC cA x (pg 0) (bt 0) (se 0) (qr 0) (hd 0) so, wS cA se tbf (bSp X) (bSg X), wP cA pg kd lo hi co pa rk nu ct sa ((nc : Nat) : Int) ((nr : Nat) : Int), wB cA bt (bBs X).1 (bBs X).2.1 (bBs X).2.2.1 (bBs X).2.2.2, poolE cA ad (bTb X) (fun _ => false) k]) [4, 5, 6, 7, 8, 9, 10, 11, 12, 0, 1, 2, 3, 13] rfl (by decide) rfl).symm ?_
    refine g_eq (st' := [iv (-2000000001)]) rfl rfl rfl ?_
    refine g_aload_n F 2 rfl rfl dL_law_550 ?_
    refine g_aload_n F 0 rfl rfl dL_law_551 ?_
    refine g_iload_n F 3 rfl rfl dL_law_552 ?_
    refine g_iconst F dL_law_553 ?_
    refine g_iadd F dL_law_554 ?_
    refine g_sld F hX hbl hbA (i + 1) (by omega) (by omega) (by omega) dL_law_555 ?_
    rw [← hz1e]
    refine g_callVP F (As := [iv z1]) (rest := [iv (-2000000001)]) (wr := wfl [wC cA x (pg 0) (bt 0) (se 0) (qr 0) (hd 0) so, wS cA se tbf (bSp X) (bSg X), wP cA pg kd lo hi co pa rk nu ct sa ((nc : Nat) : Int) ((nr : Nat) : Int), wB cA bt (bBs X).1 (bBs X).2.1 (bBs X).2.2.1 (bBs X).2.2.2, wQ cA qr (tq 0) ql qc, wTS cA tq n1 S, wH cA hd pl pr pu qu, wMH cA md pl pr, poolE cA ad (bTb X) (fun _ => false) k]) (kX7_solve l D cA md nc nr ke so bu bc pu qu fs cd un hb pf ef kd lo hi co pa rk nu ct sa fr cs cn ck ch tb cr fx fv sn be tr wy z1 (by first | assumption | omega) (by first | assumption | omega) (by first | assumption | omega) (by first | assumption | omega) (by first | assumption | omega) (by first | assumption | omega) (by first | assumption | omega) (by first | assumption | omega) (by first | assumption | omega) (by first | assumption | omega)) (cwV 1 F.2.2.2.2.1 gL_law_X7_solve rfl rfl rfl (by decide +kernel) ⟨(Nat.le_of_ble_eq_true rfl), (Nat.le_of_ble_eq_true rfl)⟩) rfl rfl (q0 := 0) rfl (wf_split (n := 14) (C := [wMO cA md ((nc : Nat) : Int) ((nr : Nat) : Int) ke so bu bc pu qu fs cd un hb pf ef, wMP cA md kd lo hi co pa rk nu ct sa, wME cA md fr cs cn ck ch tb cr, wMX cA md fx fv sn, wMB cA md be tr wy]) (R := [wC cA x (pg 0) (bt 0) (se 0) (qr 0) (hd 0) so, wS cA se tbf (bSp X) (bSg X), wP cA pg kd lo hi co pa rk nu ct sa ((nc : Nat) : Int) ((nr : Nat) : Int), wB cA bt (bBs X).1 (bBs X).2.1 (bBs X).2.2.1 (bBs X).2.2.2, wQ cA qr (tq 0) ql qc, wTS cA tq n1 S, wH cA hd pl pr pu qu, wMH cA md pl pr, poolE cA ad (bTb X) (fun _ => false) k]) [7, 8, 9, 10, 11, 0, 1, 2, 3, 4, 5, 6, 12, 13] rfl (by decide) rfl) rfl rfl (Nat.le_of_ble_eq_true rfl) ⟨by show kc + 364 + 0 ≤ 600000; omega, by show ks + 8112 + 0 ≤ 7302250; omega⟩ hA dL_law_556 (fun v w hv => ?_)
    obtain ⟨a9, ke9, so9, sn9, fx9, fv9, fr9, fs9, cs9, cn9, ck9, cd9, ch9, tb9, cr9, un9, tr9, be9, bc9, bu9, hb9, wy9, pf9, ef9, hH, hv, hw⟩ := hv
    subst hv
    subst hw
    rcases hH with ⟨-, e1, e2, e3, e4, e5, e6⟩ | hH
    rotate_left
    · exact absurd hH.1 hc
    replace e2 := e2.symm
    replace e3 := e3.symm
    replace e4 := e4.symm
    replace e5 := e5.symm
    replace e6 := e6.symm
    subst e1
    subst e2
    subst e3
    subst e4
    subst e5
    subst e6
    refine g_perm (wfl [wC cA x (pg 0) (bt 0) (se 0) (qr 0) (hd 0) so, wS cA se tbf (bSp X) (bSg X), wP cA pg kd lo hi co pa rk nu ct sa ((nc : Nat) : Int) ((nr : Nat) : Int), wB cA bt (bBs X).1 (bBs X).2.1 (bBs X).2.2.1 (bBs X).2.2.2, wQ cA qr (tq 0) ql qc, wTS cA tq n1 S, wH cA hd pl pr pu qu, wMO cA md ((nc : Nat) : Int) ((nr : Nat) : Int) ke so bu bc pu qu fs9 cd9 un9 hb9 pf9 ef9, wMP cA md kd lo hi co pa rk nu ct sa, wME cA md fr9 cs9 cn9 ck9 ch9 tb9 cr9, wMX cA md fx9 fv9 sn9, wMB cA md be tr9 wy9, wMH cA md pl pr, poolE cA ad (bTb X) (fun _ => false) k]) (wf_split (n := 14) (C := [wC cA x (pg 0) (bt 0) (se 0) (qr 0) (hd 0) so, wS cA se tbf (bSp X) (bSg X), wP cA pg kd lo hi co pa rk nu ct sa ((nc : Nat) : Int) ((nr : Nat) : Int), wB cA bt (bBs X).1 (bBs X).2.1 (bBs X).2.2.1 (bBs X).2.2.2, wQ cA qr (tq 0) ql qc, wTS cA tq n1 S, wH cA hd pl pr pu qu, wMH cA md pl pr, poolE cA ad (bTb X) (fun _ => false) k]) (R := [wMO cA md ((nc : Nat) : Int) ((nr : Nat) : Int) ke so bu bc pu qu fs9 cd9 un9 hb9 pf9 ef9, wMP cA md kd lo hi co pa rk nu ct sa, wME cA md fr9 cs9 cn9 ck9 ch9 tb9 cr9, wMX cA md fx9 fv9 sn9, wMB cA md be tr9 wy9]) [0, 1, 2, 3, 4, 5, 6, 12, 13, 7, 8, 9, 10, 11] rfl (by decide) rfl).symm ?_
    refine g_eq (st' := [iv (-2000000001), iv (-2000000001)]) rfl rfl rfl ?_
    refine g_ieq F (tgt := 887) (rfl) dL_law_559 (by decide) ?_
    exact hk kd lo hi co pa rk nu ct sa nc nr so X k ad tbf ql qc n1 S pl pr pu qu ke bu bc fs9 cd9 un9 hb9 pf9 ef9 fr9 cs9 cn9 ck9 ch9 tb9 cr9 fx9 fv9 sn9 be tr9 wy9 (hI)

set_option maxHeartbeats 4000000 in
set_option maxRecDepth 100000 in
theorem lc_worth {p : Program} {l : Launch} {e : Env} {s : State} {m : MethodId} {below : List Frame} {meth : Method} {c : Code} {Q : State → Prop} {D : va_G} {cA : Nat → ClassId} {A : Nat → Prop} {sb Ln : Nat} {xs : Nat → Int32} {x se pg bt qr tq hd md : Nat → Nat} (F : Fx p s m #[Value.ref sb] meth c cL_law 4 RL wsL_law ret D cA) (hA : ∀ q, s.heap.size ≤ q → A q) (hX : va_X sb Ln xs s s.heap) (hbl : sb < s.heap.size) (hbA : ¬ A sb) (hL : Ln ≤ 2048) (i : Nat) (hi : i + 4 ≤ Ln) (kc ks : Nat) (hkc : kc + 364 ≤ 600000 ∧ ks + 8112 ≤ 7302250) (hk : lwN p l e s m sb below meth c Q D cA A x se pg bt qr tq hd md i (kc + 364) (ks + 8112) 887) : lwN p l e s m sb below meth c Q D cA A x se pg bt qr tq hd md i kc ks 564 := by
  intro kd lo hi co pa rk nu ct sa nc nr so X k ad tbf ql qc n1 S pl pr pu qu ke bu bc fs cd un hb pf ef fr cs cn ck ch tb cr fx fv sn be tr wy hI
  obtain ⟨hpr0, ⟨hS, hbd, hbo, hk51, ht1, ht2, h00⟩, ⟨hSq, hzq⟩, ⟨hpl, hpb, hpr, hqb⟩, ⟨hbm, hke⟩, hrel⟩ := id hI
  obtain ⟨hP, hR, hco, hpa5, hpaN, hle, zs, zc⟩ := id hpr0
  have qnc := hP.1
  have qkd := hP.2.1
  have qlo := hP.2.2.1
  have qhi : ∀ j, hi j = -2000000005 ∨ (-20 ≤ hi j ∧ hi j ≤ 20) := hP.2.2.2.1
  have qnr := hR.1
  have qrk := hR.2.1
  have qnu := hR.2.2.1
  have qnu2 : ∀ j, -198 ≤ nu j ∧ nu j ≤ 198 := fun j => by have := qnu j; omega
  have qsa := hR.2.2.2.1
  have qct := hR.2.2.2.2
  have hbb := hbd.1
  have hbc9 := hbd.2.1
  have hbv := hbd.2.2
  have hbu9 : 0 < bu ∧ bu ≤ 8000000 := hbm.1
  have hbcm : -200000000000 ≤ bc ∧ bc ≤ 200000000000 := hbm.2.1
  have hbem : ∀ j, -200000000000 ≤ be j ∧ be j ≤ 200000000000 := hbm.2.2
  have hpb1 : 1 ≤ pu ∧ pu ≤ 2000000000 := by omega
  have hV := @IM_P D s A
  have hz1 : -2147483648 ≤ (xs (i + 1)).toInt ∧ (xs (i + 1)).toInt ≤ 2147483647 := i32_rng _
  have hz2 : -2147483648 ≤ (xs (i + 2)).toInt ∧ (xs (i + 2)).toInt ≤ 2147483647 := i32_rng _
  have hz3 : -2147483648 ≤ (xs (i + 3)).toInt ∧ (xs (i + 3)).toInt ≤ 2147483647 := i32_rng _
  obtain ⟨z1, hz1e⟩ : ∃ z, z = (xs (i + 1)).toInt := ⟨_, rfl⟩
  obtain ⟨z2, hz2e⟩ : ∃ z, z = (xs (i + 2)).toInt := ⟨_, rfl⟩
  obtain ⟨z3, hz3e⟩ : ∃ z, z = (xs (i + 3)).toInt := ⟨_, rfl⟩
  rw [← hz1e] at hz1
  rw [← hz2e] at hz2
  rw [← hz3e] at hz3
  by_cases hc : (0 ≤ z1 ∧ z1 < (nr : Int)) ∧ (-99 ≤ z2 ∧ z2 ≤ 99) ∧ (z3 = 0 ∨ z3 = 1)
  · skip
    refine g_aload_n F 1 rfl rfl dL_law_564 ?_
    refine g_aload_n F 0 rfl rfl dL_law_565 ?_
    refine g_iload_n F 3 rfl rfl dL_law_566 ?_
    refine g_iconst F dL_law_567 ?_
    refine g_iadd F dL_law_568 ?_
    refine g_sld F hX hbl hbA (i + 1) (by omega) (by omega) (by omega) dL_law_569 ?_
    rw [← hz1e]
    refine g_aload_n F 0 rfl rfl dL_law_570 ?_
    refine g_iload_n F 3 rfl rfl dL_law_571 ?_
    refine g_iconst F dL_law_572 ?_
    refine g_iadd F dL_law_573 ?_
    refine g_sld F hX hbl hbA (i + 2) (by omega) (by omega) (by omega) dL_law_574 ?_
    rw [← hz2e]
    refine g_aload_n F 0 rfl rfl dL_law_575 ?_
    refine g_iload_n F 3 rfl rfl dL_law_576 ?_
    refine g_iconst F dL_law_577 ?_
    refine g_iadd F dL_law_578 ?_
    refine g_sld F hX hbl hbA (i + 3) (by omega) (by omega) (by omega) dL_law_579 ?_
    rw [← hz3e]
    refine g_callVP F (As := [iv z1, iv z2, iv z3]) (rest := []) (wr := wfl [wQ cA qr (tq 0) ql qc, wTS cA tq n1 S, wH cA hd pl pr pu qu, wMO cA md ((nc : Nat) : Int) ((nr : Nat) : Int) ke so bu bc pu qu fs cd un hb pf ef, wMP cA md kd lo hi co pa rk nu ct sa, wME cA md fr cs cn ck ch tb cr, wMX cA md fx fv sn, wMB cA md be tr wy, wMH cA md pl pr]) (kX6_worth l D cA x (qr 0) (hd 0) so se pg kd lo hi co pa rk nu ct sa nc nr bt X k ad tbf z1 z2 z3 (by first | assumption | omega) (by first | assumption | omega) (by first | assumption | omega) (by first | assumption | omega) (by first | assumption | omega) (by first | assumption | omega) (by first | assumption | omega) (by first | assumption | omega) (by first | assumption | omega) (by first | assumption | omega) (by first | assumption | omega) (by first | assumption | omega) (by first | assumption | omega)) (cwV 3 F.2.2.2.2.1 gL_law_X6_worth rfl rfl rfl (by decide +kernel) ⟨(Nat.le_of_ble_eq_true rfl), (Nat.le_of_ble_eq_true rfl)⟩) rfl rfl (q0 := 0) rfl (wf_split (n := 14) (C := [wC cA x (pg 0) (bt 0) (se 0) (qr 0) (hd 0) so, wS cA se tbf (bSp X) (bSg X), wP cA pg kd lo hi co pa rk nu ct sa ((nc : Nat) : Int) ((nr : Nat) : Int), wB cA bt (bBs X).1 (bBs X).2.1 (bBs X).2.2.1 (bBs X).2.2.2, poolE cA ad (bTb X) (fun _ => false) k]) (R := [wQ cA qr (tq 0) ql qc, wTS cA tq n1 S, wH cA hd pl pr pu qu, wMO cA md ((nc : Nat) : Int) ((nr : Nat) : Int) ke so bu bc pu qu fs cd un hb pf ef, wMP cA md kd lo hi co pa rk nu ct sa, wME cA md fr cs cn ck ch tb cr, wMX cA md fx fv sn, wMB cA md be tr wy, wMH cA md pl pr]) [0, 1, 2, 3, 13, 4, 5, 6, 7, 8, 9, 10, 11, 12] rfl (by decide) rfl) rfl rfl (Nat.le_of_ble_eq_true rfl) ⟨by show kc + 364 ≤ 600000; omega, by show ks + 8112 ≤ 7302250; omega⟩ hA dL_law_580 (fun v w hv => ?_)
    rcases hv with hv | ⟨-, hv, k2, ad2, tb2, y1, y2, y3, y4, y5, y6, hw⟩
    · exact absurd hc hv.1
    subst hv
    subst hw
    refine g_perm (wfl [wC cA x (pg 0) (bt 0) (se 0) (qr 0) (hd 0) (so + 1), wS cA se tb2 (bSp (runT kd pa lo hi co rk nu ct sa nc nr (z1) (z2) (decide (z3 = 0)) X)) (bSg (runT kd pa lo hi co rk nu ct sa nc nr (z1) (z2) (decide (z3 = 0)) X)), wP cA pg kd lo hi co pa rk nu ct sa ((nc : Nat) : Int) ((nr : Nat) : Int), wB cA bt (bBs (runT kd pa lo hi co rk nu ct sa nc nr (z1) (z2) (decide (z3 = 0)) X)).1 (bBs (runT kd pa lo hi co rk nu ct sa nc nr (z1) (z2) (decide (z3 = 0)) X)).2.1 (bBs (runT kd pa lo hi co rk nu ct sa nc nr (z1) (z2) (decide (z3 = 0)) X)).2.2.1 (bBs (runT kd pa lo hi co rk nu ct sa nc nr (z1) (z2) (decide (z3 = 0)) X)).2.2.2, wQ cA qr (tq 0) ql qc, wTS cA tq n1 S, wH cA hd pl pr pu qu, wMO cA md ((nc : Nat) : Int) ((nr : Nat) : Int) ke so bu bc pu qu fs cd un hb pf ef, wMP cA md kd lo hi co pa rk nu ct sa, wME cA md fr cs cn ck ch tb cr, wMX cA md fx fv sn, wMB cA md be tr wy, wMH cA md pl pr, poolE cA ad2 (bTb (runT kd pa lo hi co rk nu ct sa nc nr (z1) (z2) (decide (z3 = 0)) X)) (fun _ => false) k2]) (wf_split (n := 14) (C := [wQ cA qr (tq 0) ql qc, wTS cA tq n1 S, wH cA hd pl pr pu qu, wMO cA md ((nc : Nat) : Int) ((nr : Nat) : Int) ke so bu bc pu qu fs cd un hb pf ef, wMP cA md kd lo hi co pa rk nu ct sa, wME cA md fr cs cn ck ch tb cr, wMX cA md fx fv sn, wMB cA md be tr wy, wMH cA md pl pr]) (R := [wC cA x (pg 0) (bt 0) (se 0) (qr 0) (hd 0) (so + 1), wS cA se tb2 (bSp (runT kd pa lo hi co rk nu ct sa nc nr (z1) (z2) (decide (z3 = 0)) X)) (bSg (runT kd pa lo hi co rk nu ct sa nc nr (z1) (z2) (decide (z3 = 0)) X)), wP cA pg kd lo hi co pa rk nu ct sa ((nc : Nat) : Int) ((nr : Nat) : Int), wB cA bt (bBs (runT kd pa lo hi co rk nu ct sa nc nr (z1) (z2) (decide (z3 = 0)) X)).1 (bBs (runT kd pa lo hi co rk nu ct sa nc nr (z1) (z2) (decide (z3 = 0)) X)).2.1 (bBs (runT kd pa lo hi co rk nu ct sa nc nr (z1) (z2) (decide (z3 = 0)) X)).2.2.1 (bBs (runT kd pa lo hi co rk nu ct sa nc nr (z1) (z2) (decide (z3 = 0)) X)).2.2.2, poolE cA ad2 (bTb (runT kd pa lo hi co rk nu ct sa nc nr (z1) (z2) (decide (z3 = 0)) X)) (fun _ => false) k2]) [4, 5, 6, 7, 8, 9, 10, 11, 12, 0, 1, 2, 3, 13] rfl (by decide) rfl).symm ?_
    refine g_eq (st' := [iv (bBs (runT kd pa lo hi co rk nu ct sa nc nr (z1) (z2) (decide (z3 = 0)) X)).2.2.2]) rfl rfl rfl ?_
    refine g_aload_n F 2 rfl rfl dL_law_583 ?_
    refine g_aload_n F 0 rfl rfl dL_law_584 ?_
    refine g_iload_n F 3 rfl rfl dL_law_585 ?_
    refine g_iconst F dL_law_586 ?_
    refine g_iadd F dL_law_587 ?_
    refine g_sld F hX hbl hbA (i + 1) (by omega) (by omega) (by omega) dL_law_588 ?_
    rw [← hz1e]
    refine g_aload_n F 0 rfl rfl dL_law_589 ?_
    refine g_iload_n F 3 rfl rfl dL_law_590 ?_
    refine g_iconst F dL_law_591 ?_
    refine g_iadd F dL_law_592 ?_
    refine g_sld F hX hbl hbA (i + 2) (by omega) (by omega) (by omega) dL_law_593 ?_
    rw [← hz2e]
    refine g_aload_n F 0 rfl rfl dL_law_594 ?_
    refine g_iload_n F 3 rfl rfl dL_law_595 ?_
    refine g_iconst F dL_law_596 ?_
    refine g_iadd F dL_law_597 ?_
    refine g_sld F hX hbl hbA (i + 3) (by omega) (by omega) (by omega) dL_law_598 ?_
    rw [← hz3e]
    refine g_callVP F (As := [iv z1, iv z2, iv z3]) (rest := [iv (bBs (runT kd pa lo hi co rk nu ct sa nc nr (z1) (z2) (decide (z3 = 0)) X)).2.2.2]) (wr := wfl [wC cA x (pg 0) (bt 0) (se 0) (qr 0) (hd 0) (so + 1), wS cA se tb2 (bSp (runT kd pa lo hi co rk nu ct sa nc nr (z1) (z2) (decide (z3 = 0)) X)) (bSg (runT kd pa lo hi co rk nu ct sa nc nr (z1) (z2) (decide (z3 = 0)) X)), wP cA pg kd lo hi co pa rk nu ct sa ((nc : Nat) : Int) ((nr : Nat) : Int), wB cA bt (bBs (runT kd pa lo hi co rk nu ct sa nc nr (z1) (z2) (decide (z3 = 0)) X)).1 (bBs (runT kd pa lo hi co rk nu ct sa nc nr (z1) (z2) (decide (z3 = 0)) X)).2.1 (bBs (runT kd pa lo hi co rk nu ct sa nc nr (z1) (z2) (decide (z3 = 0)) X)).2.2.1 (bBs (runT kd pa lo hi co rk nu ct sa nc nr (z1) (z2) (decide (z3 = 0)) X)).2.2.2, wQ cA qr (tq 0) ql qc, wTS cA tq n1 S, wH cA hd pl pr pu qu, wMH cA md pl pr, poolE cA ad2 (bTb (runT kd pa lo hi co rk nu ct sa nc nr (z1) (z2) (decide (z3 = 0)) X)) (fun _ => false) k2]) (kX7_worth l D cA md nc nr ke so bu bc pu qu fs cd un hb pf ef kd lo hi co pa rk nu ct sa fr cs cn ck ch tb cr fx fv sn be tr wy z1 z2 z3 (by first | assumption | omega) (by first | assumption | omega) (by first | assumption | omega) (by first | assumption | omega) (by first | assumption | omega) (by first | assumption | omega) (by first | assumption | omega) (by first | assumption | omega) (by first | assumption | omega) (by first | assumption | omega) (by first | assumption | omega) (by first | assumption | omega)) (cwV 3 F.2.2.2.2.1 gL_law_X7_worth rfl rfl rfl (by decide +kernel) ⟨(Nat.le_of_ble_eq_true rfl), (Nat.le_of_ble_eq_true rfl)⟩) rfl rfl (q0 := 0) rfl (wf_split (n := 14) (C := [wMO cA md ((nc : Nat) : Int) ((nr : Nat) : Int) ke so bu bc pu qu fs cd un hb pf ef, wMP cA md kd lo hi co pa rk nu ct sa, wME cA md fr cs cn ck ch tb cr, wMX cA md fx fv sn, wMB cA md be tr wy]) (R := [wC cA x (pg 0) (bt 0) (se 0) (qr 0) (hd 0) (so + 1), wS cA se tb2 (bSp (runT kd pa lo hi co rk nu ct sa nc nr (z1) (z2) (decide (z3 = 0)) X)) (bSg (runT kd pa lo hi co rk nu ct sa nc nr (z1) (z2) (decide (z3 = 0)) X)), wP cA pg kd lo hi co pa rk nu ct sa ((nc : Nat) : Int) ((nr : Nat) : Int), wB cA bt (bBs (runT kd pa lo hi co rk nu ct sa nc nr (z1) (z2) (decide (z3 = 0)) X)).1 (bBs (runT kd pa lo hi co rk nu ct sa nc nr (z1) (z2) (decide (z3 = 0)) X)).2.1 (bBs (runT kd pa lo hi co rk nu ct sa nc nr (z1) (z2) (decide (z3 = 0)) X)).2.2.1 (bBs (runT kd pa lo hi co rk nu ct sa nc nr (z1) (z2) (decide (z3 = 0)) X)).2.2.2, wQ cA qr (tq 0) ql qc, wTS cA tq n1 S, wH cA hd pl pr pu qu, wMH cA md pl pr, poolE cA ad2 (bTb (runT kd pa lo hi co rk nu ct sa nc nr (z1) (z2) (decide (z3 = 0)) X)) (fun _ => false) k2]) [7, 8, 9, 10, 11, 0, 1, 2, 3, 4, 5, 6, 12, 13] rfl (by decide) rfl) rfl rfl (Nat.le_of_ble_eq_true rfl) ⟨by show kc + 364 + 0 ≤ 600000; omega, by show ks + 8112 + 0 ≤ 7302250; omega⟩ hA dL_law_599 (fun v w hv => ?_)
    obtain ⟨a9, ke9, so9, sn9, fx9, fv9, fr9, fs9, cs9, cn9, ck9, cd9, ch9, tb9, cr9, un9, tr9, be9, bc9, bu9, hb9, wy9, pf9, ef9, hH, hv, hw⟩ := hv
    subst hv
    subst hw
    rcases hH with hH | ⟨-, e1, e2, hsem, htl⟩
    · exact absurd hc hH.1
    subst e1
    subst e2
    have hfin := sol_step hI (show (-99 : Int) ≤ z2 ∧ (z2 : Int) ≤ 99 by omega) ⟨y1, y3⟩ y4 y5 hsem htl
    refine g_perm (wfl [wC cA x (pg 0) (bt 0) (se 0) (qr 0) (hd 0) (so + 1), wS cA se tb2 (bSp (runT kd pa lo hi co rk nu ct sa nc nr (z1) (z2) (decide (z3 = 0)) X)) (bSg (runT kd pa lo hi co rk nu ct sa nc nr (z1) (z2) (decide (z3 = 0)) X)), wP cA pg kd lo hi co pa rk nu ct sa ((nc : Nat) : Int) ((nr : Nat) : Int), wB cA bt (bBs (runT kd pa lo hi co rk nu ct sa nc nr (z1) (z2) (decide (z3 = 0)) X)).1 (bBs (runT kd pa lo hi co rk nu ct sa nc nr (z1) (z2) (decide (z3 = 0)) X)).2.1 (bBs (runT kd pa lo hi co rk nu ct sa nc nr (z1) (z2) (decide (z3 = 0)) X)).2.2.1 (bBs (runT kd pa lo hi co rk nu ct sa nc nr (z1) (z2) (decide (z3 = 0)) X)).2.2.2, wQ cA qr (tq 0) ql qc, wTS cA tq n1 S, wH cA hd pl pr pu qu, wMO cA md ((nc : Nat) : Int) ((nr : Nat) : Int) a9 (so + 1) bu9 bc9 pu qu fs9 cd9 un9 hb9 pf9 ef9, wMP cA md kd lo hi co pa rk nu ct sa, wME cA md fr9 cs9 cn9 ck9 ch9 tb9 cr9, wMX cA md fx9 fv9 sn9, wMB cA md be9 tr9 wy9, wMH cA md pl pr, poolE cA ad2 (bTb (runT kd pa lo hi co rk nu ct sa nc nr (z1) (z2) (decide (z3 = 0)) X)) (fun _ => false) k2]) (wf_split (n := 14) (C := [wC cA x (pg 0) (bt 0) (se 0) (qr 0) (hd 0) (so + 1), wS cA se tb2 (bSp (runT kd pa lo hi co rk nu ct sa nc nr (z1) (z2) (decide (z3 = 0)) X)) (bSg (runT kd pa lo hi co rk nu ct sa nc nr (z1) (z2) (decide (z3 = 0)) X)), wP cA pg kd lo hi co pa rk nu ct sa ((nc : Nat) : Int) ((nr : Nat) : Int), wB cA bt (bBs (runT kd pa lo hi co rk nu ct sa nc nr (z1) (z2) (decide (z3 = 0)) X)).1 (bBs (runT kd pa lo hi co rk nu ct sa nc nr (z1) (z2) (decide (z3 = 0)) X)).2.1 (bBs (runT kd pa lo hi co rk nu ct sa nc nr (z1) (z2) (decide (z3 = 0)) X)).2.2.1 (bBs (runT kd pa lo hi co rk nu ct sa nc nr (z1) (z2) (decide (z3 = 0)) X)).2.2.2, wQ cA qr (tq 0) ql qc, wTS cA tq n1 S, wH cA hd pl pr pu qu, wMH cA md pl pr, poolE cA ad2 (bTb (runT kd pa lo hi co rk nu ct sa nc nr (z1) (z2) (decide (z3 = 0)) X)) (fun _ => false) k2]) (R := [wMO cA md ((nc : Nat) : Int) ((nr : Nat) : Int) a9 (so + 1) bu9 bc9 pu qu fs9 cd9 un9 hb9 pf9 ef9, wMP cA md kd lo hi co pa rk nu ct sa, wME cA md fr9 cs9 cn9 ck9 ch9 tb9 cr9, wMX cA md fx9 fv9 sn9, wMB cA md be9 tr9 wy9]) [0, 1, 2, 3, 4, 5, 6, 12, 13, 7, 8, 9, 10, 11] rfl (by decide) rfl).symm ?_
    refine g_eq (st' := [iv a9, iv (bBs (runT kd pa lo hi co rk nu ct sa nc nr (z1) (z2) (decide (z3 = 0)) X)).2.2.2]) rfl rfl rfl ?_
    refine g_ieq F (tgt := 887) (hfin.1) dL_law_602 (by decide) ?_
    exact hk kd lo hi co pa rk nu ct sa nc nr (so + 1) (runT kd pa lo hi co rk nu ct sa nc nr (z1) (z2) (decide (z3 = 0)) X) k2 ad2 tb2 ql qc n1 S pl pr pu qu a9 bu9 bc9 fs9 cd9 un9 hb9 pf9 ef9 fr9 cs9 cn9 ck9 ch9 tb9 cr9 fx9 fv9 sn9 be9 tr9 wy9 (hfin.2)
  · skip
    refine g_aload_n F 1 rfl rfl dL_law_564 ?_
    refine g_aload_n F 0 rfl rfl dL_law_565 ?_
    refine g_iload_n F 3 rfl rfl dL_law_566 ?_
    refine g_iconst F dL_law_567 ?_
    refine g_iadd F dL_law_568 ?_
    refine g_sld F hX hbl hbA (i + 1) (by omega) (by omega) (by omega) dL_law_569 ?_
    rw [← hz1e]
    refine g_aload_n F 0 rfl rfl dL_law_570 ?_
    refine g_iload_n F 3 rfl rfl dL_law_571 ?_
    refine g_iconst F dL_law_572 ?_
    refine g_iadd F dL_law_573 ?_
    refine g_sld F hX hbl hbA (i + 2) (by omega) (by omega) (by omega) dL_law_574 ?_
    rw [← hz2e]
    refine g_aload_n F 0 rfl rfl dL_law_575 ?_
    refine g_iload_n F 3 rfl rfl dL_law_576 ?_
    refine g_iconst F dL_law_577 ?_
    refine g_iadd F dL_law_578 ?_
    refine g_sld F hX hbl hbA (i + 3) (by omega) (by omega) (by omega) dL_law_579 ?_
    rw [← hz3e]
    refine g_callVP F (As := [iv z1, iv z2, iv z3]) (rest := []) (wr := wfl [wQ cA qr (tq 0) ql qc, wTS cA tq n1 S, wH cA hd pl pr pu qu, wMO cA md ((nc : Nat) : Int) ((nr : Nat) : Int) ke so bu bc pu qu fs cd un hb pf ef, wMP cA md kd lo hi co pa rk nu ct sa, wME cA md fr cs cn ck ch tb cr, wMX cA md fx fv sn, wMB cA md be tr wy, wMH cA md pl pr]) (kX6_worth l D cA x (qr 0) (hd 0) so se pg kd lo hi co pa rk nu ct sa nc nr bt X k ad tbf z1 z2 z3 (by first | assumption | omega) (by first | assumption | omega) (by first | assumption | omega) (by first | assumption | omega) (by first | assumption | omega) (by first | assumption | omega) (by first | assumption | omega) (by first | assumption | omega) (by first | assumption | omega) (by first | assumption | omega) (by first | assumption | omega) (by first | assumption | omega) (by first | assumption | omega)) (cwV 3 F.2.2.2.2.1 gL_law_X6_worth rfl rfl rfl (by decide +kernel) ⟨(Nat.le_of_ble_eq_true rfl), (Nat.le_of_ble_eq_true rfl)⟩) rfl rfl (q0 := 0) rfl (wf_split (n := 14) (C := [wC cA x (pg 0) (bt 0) (se 0) (qr 0) (hd 0) so, wS cA se tbf (bSp X) (bSg X), wP cA pg kd lo hi co pa rk nu ct sa ((nc : Nat) : Int) ((nr : Nat) : Int), wB cA bt (bBs X).1 (bBs X).2.1 (bBs X).2.2.1 (bBs X).2.2.2, poolE cA ad (bTb X) (fun _ => false) k]) (R := [wQ cA qr (tq 0) ql qc, wTS cA tq n1 S, wH cA hd pl pr pu qu, wMO cA md ((nc : Nat) : Int) ((nr : Nat) : Int) ke so bu bc pu qu fs cd un hb pf ef, wMP cA md kd lo hi co pa rk nu ct sa, wME cA md fr cs cn ck ch tb cr, wMX cA md fx fv sn, wMB cA md be tr wy, wMH cA md pl pr]) [0, 1, 2, 3, 13, 4, 5, 6, 7, 8, 9, 10, 11, 12] rfl (by decide) rfl) rfl rfl (Nat.le_of_ble_eq_true rfl) ⟨by show kc + 364 ≤ 600000; omega, by show ks + 8112 ≤ 7302250; omega⟩ hA dL_law_580 (fun v w hv => ?_)
    rcases hv with ⟨-, hv, hw⟩ | hv
    rotate_left
    · exact absurd hv.1 hc
    subst hv
    subst hw
    refine g_perm (wfl [wC cA x (pg 0) (bt 0) (se 0) (qr 0) (hd 0) so, wS cA se tbf (bSp X) (bSg X), wP cA pg kd lo hi co pa rk nu ct sa ((nc : Nat) : Int) ((nr : Nat) : Int), wB cA bt (bBs X).1 (bBs X).2.1 (bBs X).2.2.1 (bBs X).2.2.2, wQ cA qr (tq 0) ql qc, wTS cA tq n1 S, wH cA hd pl pr pu qu, wMO cA md ((nc : Nat) : Int) ((nr : Nat) : Int) ke so bu bc pu qu fs cd un hb pf ef, wMP cA md kd lo hi co pa rk nu ct sa, wME cA md fr cs cn ck ch tb cr, wMX cA md fx fv sn, wMB cA md be tr wy, wMH cA md pl pr, poolE cA ad (bTb X) (fun _ => false) k]) (wf_split (n := 14) (C := [wQ cA qr (tq 0) ql qc, wTS cA tq n1 S, wH cA hd pl pr pu qu, wMO cA md ((nc : Nat) : Int) ((nr : Nat) : Int) ke so bu bc pu qu fs cd un hb pf ef, wMP cA md kd lo hi co pa rk nu ct sa, wME cA md fr cs cn ck ch tb cr, wMX cA md fx fv sn, wMB cA md be tr wy, wMH cA md pl pr]) (R := [wC cA x (pg 0) (bt 0) (se 0) (qr 0) (hd 0) so, wS cA se tbf (bSp X) (bSg X), wP cA pg kd lo hi co pa rk nu ct sa ((nc : Nat) : Int) ((nr : Nat) : Int), wB cA bt (bBs X).1 (bBs X).2.1 (bBs X).2.2.1 (bBs X).2.2.2, poolE cA ad (bTb X) (fun _ => false) k]) [4, 5, 6, 7, 8, 9, 10, 11, 12, 0, 1, 2, 3, 13] rfl (by decide) rfl).symm ?_
    refine g_eq (st' := [iv (-2000000001)]) rfl rfl rfl ?_
    refine g_aload_n F 2 rfl rfl dL_law_583 ?_
    refine g_aload_n F 0 rfl rfl dL_law_584 ?_
    refine g_iload_n F 3 rfl rfl dL_law_585 ?_
    refine g_iconst F dL_law_586 ?_
    refine g_iadd F dL_law_587 ?_
    refine g_sld F hX hbl hbA (i + 1) (by omega) (by omega) (by omega) dL_law_588 ?_
    rw [← hz1e]
    refine g_aload_n F 0 rfl rfl dL_law_589 ?_
    refine g_iload_n F 3 rfl rfl dL_law_590 ?_
    refine g_iconst F dL_law_591 ?_
    refine g_iadd F dL_law_592 ?_
    refine g_sld F hX hbl hbA (i + 2) (by omega) (by omega) (by omega) dL_law_593 ?_
    rw [← hz2e]
    refine g_aload_n F 0 rfl rfl dL_law_594 ?_
    refine g_iload_n F 3 rfl rfl dL_law_595 ?_
    refine g_iconst F dL_law_596 ?_
    refine g_iadd F dL_law_597 ?_
    refine g_sld F hX hbl hbA (i + 3) (by omega) (by omega) (by omega) dL_law_598 ?_
    rw [← hz3e]
    refine g_callVP F (As := [iv z1, iv z2, iv z3]) (rest := [iv (-2000000001)]) (wr := wfl [wC cA x (pg 0) (bt 0) (se 0) (qr 0) (hd 0) so, wS cA se tbf (bSp X) (bSg X), wP cA pg kd lo hi co pa rk nu ct sa ((nc : Nat) : Int) ((nr : Nat) : Int), wB cA bt (bBs X).1 (bBs X).2.1 (bBs X).2.2.1 (bBs X).2.2.2, wQ cA qr (tq 0) ql qc, wTS cA tq n1 S, wH cA hd pl pr pu qu, wMH cA md pl pr, poolE cA ad (bTb X) (fun _ => false) k]) (kX7_worth l D cA md nc nr ke so bu bc pu qu fs cd un hb pf ef kd lo hi co pa rk nu ct sa fr cs cn ck ch tb cr fx fv sn be tr wy z1 z2 z3 (by first | assumption | omega) (by first | assumption | omega) (by first | assumption | omega) (by first | assumption | omega) (by first | assumption | omega) (by first | assumption | omega) (by first | assumption | omega) (by first | assumption | omega) (by first | assumption | omega) (by first | assumption | omega) (by first | assumption | omega) (by first | assumption | omega)) (cwV 3 F.2.2.2.2.1 gL_law_X7_worth rfl rfl rfl (by decide +kernel) ⟨(Nat.le_of_ble_eq_true rfl), (Nat.le_of_ble_eq_true rfl)⟩) rfl rfl (q0 := 0) rfl (wf_split (n := 14) (C := [wMO cA md ((nc : Nat) : Int) ((nr : Nat) : Int) ke so bu bc pu qu fs cd un hb pf ef, wMP cA md kd lo hi co pa rk nu ct sa, wME cA md fr cs cn ck ch tb cr, wMX cA md fx fv sn, wMB cA md be tr wy]) (R := [wC cA x (pg 0) (bt 0) (se 0) (qr 0) (hd 0) so, wS cA se tbf (bSp X) (bSg X), wP cA pg kd lo hi co pa rk nu ct sa ((nc : Nat) : Int) ((nr : Nat) : Int), wB cA bt (bBs X).1 (bBs X).2.1 (bBs X).2.2.1 (bBs X).2.2.2, wQ cA qr (tq 0) ql qc, wTS cA tq n1 S, wH cA hd pl pr pu qu, wMH cA md pl pr, poolE cA ad (bTb X) (fun _ => false) k]) [7, 8, 9, 10, 11, 0, 1, 2, 3, 4, 5, 6, 12, 13] rfl (by decide) rfl) rfl rfl (Nat.le_of_ble_eq_true rfl) ⟨by show kc + 364 + 0 ≤ 600000; omega, by show ks + 8112 + 0 ≤ 7302250; omega⟩ hA dL_law_599 (fun v w hv => ?_)
    obtain ⟨a9, ke9, so9, sn9, fx9, fv9, fr9, fs9, cs9, cn9, ck9, cd9, ch9, tb9, cr9, un9, tr9, be9, bc9, bu9, hb9, wy9, pf9, ef9, hH, hv, hw⟩ := hv
    subst hv
    subst hw
    rcases hH with ⟨-, e1, e2, e3, e4, e5, e6⟩ | hH
    rotate_left
    · exact absurd hH.1 hc
    replace e2 := e2.symm
    replace e3 := e3.symm
    replace e4 := e4.symm
    replace e5 := e5.symm
    replace e6 := e6.symm
    subst e1
    subst e2
    subst e3
    subst e4
    subst e5
    subst e6
    refine g_perm (wfl [wC cA x (pg 0) (bt 0) (se 0) (qr 0) (hd 0) so, wS cA se tbf (bSp X) (bSg X), wP cA pg kd lo hi co pa rk nu ct sa ((nc : Nat) : Int) ((nr : Nat) : Int), wB cA bt (bBs X).1 (bBs X).2.1 (bBs X).2.2.1 (bBs X).2.2.2, wQ cA qr (tq 0) ql qc, wTS cA tq n1 S, wH cA hd pl pr pu qu, wMO cA md ((nc : Nat) : Int) ((nr : Nat) : Int) ke so bu bc pu qu fs9 cd9 un9 hb9 pf9 ef9, wMP cA md kd lo hi co pa rk nu ct sa, wME cA md fr9 cs9 cn9 ck9 ch9 tb9 cr9, wMX cA md fx9 fv9 sn9, wMB cA md be tr9 wy9, wMH cA md pl pr, poolE cA ad (bTb X) (fun _ => false) k]) (wf_split (n := 14) (C := [wC cA x (pg 0) (bt 0) (se 0) (qr 0) (hd 0) so, wS cA se tbf (bSp X) (bSg X), wP cA pg kd lo hi co pa rk nu ct sa ((nc : Nat) : Int) ((nr : Nat) : Int), wB cA bt (bBs X).1 (bBs X).2.1 (bBs X).2.2.1 (bBs X).2.2.2, wQ cA qr (tq 0) ql qc, wTS cA tq n1 S, wH cA hd pl pr pu qu, wMH cA md pl pr, poolE cA ad (bTb X) (fun _ => false) k]) (R := [wMO cA md ((nc : Nat) : Int) ((nr : Nat) : Int) ke so bu bc pu qu fs9 cd9 un9 hb9 pf9 ef9, wMP cA md kd lo hi co pa rk nu ct sa, wME cA md fr9 cs9 cn9 ck9 ch9 tb9 cr9, wMX cA md fx9 fv9 sn9, wMB cA md be tr9 wy9]) [0, 1, 2, 3, 4, 5, 6, 12, 13, 7, 8, 9, 10, 11] rfl (by decide) rfl).symm ?_
    refine g_eq (st' := [iv (-2000000001), iv (-2000000001)]) rfl rfl rfl ?_
    refine g_ieq F (tgt := 887) (rfl) dL_law_602 (by decide) ?_
    exact hk kd lo hi co pa rk nu ct sa nc nr so X k ad tbf ql qc n1 S pl pr pu qu ke bu bc fs9 cd9 un9 hb9 pf9 ef9 fr9 cs9 cn9 ck9 ch9 tb9 cr9 fx9 fv9 sn9 be tr9 wy9 (hI)

set_option maxHeartbeats 4000000 in
set_option maxRecDepth 100000 in
theorem lc_quarrel {p : Program} {l : Launch} {e : Env} {s : State} {m : MethodId} {below : List Frame} {meth : Method} {c : Code} {Q : State → Prop} {D : va_G} {cA : Nat → ClassId} {A : Nat → Prop} {sb Ln : Nat} {xs : Nat → Int32} {x se pg bt qr tq hd md : Nat → Nat} (F : Fx p s m #[Value.ref sb] meth c cL_law 4 RL wsL_law ret D cA) (hA : ∀ q, s.heap.size ≤ q → A q) (hX : va_X sb Ln xs s s.heap) (hbl : sb < s.heap.size) (hbA : ¬ A sb) (hL : Ln ≤ 2048) (i : Nat) (hi : i + 4 ≤ Ln) (kc ks : Nat) (hkc : kc + 364 ≤ 600000 ∧ ks + 8112 ≤ 7302250) (hk : lwN p l e s m sb below meth c Q D cA A x se pg bt qr tq hd md i (kc + 364) (ks + 8112) 887) : lwN p l e s m sb below meth c Q D cA A x se pg bt qr tq hd md i kc ks 665 := by
  intro kd lo hi co pa rk nu ct sa nc nr so X k ad tbf ql qc n1 S pl pr pu qu ke bu bc fs cd un hb pf ef fr cs cn ck ch tb cr fx fv sn be tr wy hI
  obtain ⟨hpr0, ⟨hS, hbd, hbo, hk51, ht1, ht2, h00⟩, ⟨hSq, hzq⟩, ⟨hpl, hpb, hpr, hqb⟩, ⟨hbm, hke⟩, hrel⟩ := id hI
  obtain ⟨hP, hR, hco, hpa5, hpaN, hle, zs, zc⟩ := id hpr0
  have qnc := hP.1
  have qkd := hP.2.1
  have qlo := hP.2.2.1
  have qhi : ∀ j, hi j = -2000000005 ∨ (-20 ≤ hi j ∧ hi j ≤ 20) := hP.2.2.2.1
  have qnr := hR.1
  have qrk := hR.2.1
  have qnu := hR.2.2.1
  have qnu2 : ∀ j, -198 ≤ nu j ∧ nu j ≤ 198 := fun j => by have := qnu j; omega
  have qsa := hR.2.2.2.1
  have qct := hR.2.2.2.2
  have hbb := hbd.1
  have hbc9 := hbd.2.1
  have hbv := hbd.2.2
  have hbu9 : 0 < bu ∧ bu ≤ 8000000 := hbm.1
  have hbcm : -200000000000 ≤ bc ∧ bc ≤ 200000000000 := hbm.2.1
  have hbem : ∀ j, -200000000000 ≤ be j ∧ be j ≤ 200000000000 := hbm.2.2
  have hpb1 : 1 ≤ pu ∧ pu ≤ 2000000000 := by omega
  have hV := @IM_P D s A
  have hz1 : -2147483648 ≤ (xs (i + 1)).toInt ∧ (xs (i + 1)).toInt ≤ 2147483647 := i32_rng _
  have hz2 : -2147483648 ≤ (xs (i + 2)).toInt ∧ (xs (i + 2)).toInt ≤ 2147483647 := i32_rng _
  have hz3 : -2147483648 ≤ (xs (i + 3)).toInt ∧ (xs (i + 3)).toInt ≤ 2147483647 := i32_rng _
  obtain ⟨z1, hz1e⟩ : ∃ z, z = (xs (i + 1)).toInt := ⟨_, rfl⟩
  obtain ⟨z2, hz2e⟩ : ∃ z, z = (xs (i + 2)).toInt := ⟨_, rfl⟩
  obtain ⟨z3, hz3e⟩ : ∃ z, z = (xs (i + 3)).toInt := ⟨_, rfl⟩
  rw [← hz1e] at hz1
  rw [← hz2e] at hz2
  rw [← hz3e] at hz3
  refine g_aload_n F 1 rfl rfl dL_law_665 ?_
  refine g_callVP F (As := []) (rest := []) (wr := wfl [wS cA se tbf (bSp X) (bSg X), wB cA bt (bBs X).1 (bBs X).2.1 (bBs X).2.2.1 (bBs X).2.2.2, wH cA hd pl pr pu qu, wMO cA md ((nc : Nat) : Int) ((nr : Nat) : Int) ke so bu bc pu qu fs cd un hb pf ef, wMP cA md kd lo hi co pa rk nu ct sa, wME cA md fr cs cn ck ch tb cr, wMX cA md fx fv sn, wMB cA md be tr wy, wMH cA md pl pr, poolE cA ad (bTb X) (fun _ => false) k]) (kX6_quarrel l D cA x (bt 0) (se 0) (hd 0) so qr tq ql qc S n1 pg kd lo hi co pa rk nu ct sa nc nr (by first | assumption | omega) (by first | assumption | omega) (by first | assumption | omega) (by first | assumption | omega) (by first | assumption | omega)) (cwV 0 F.2.2.2.2.1 gL_law_X6_quarrel rfl rfl rfl (by decide +kernel) ⟨(Nat.le_of_ble_eq_true rfl), (Nat.le_of_ble_eq_true rfl)⟩) rfl rfl (q0 := 0) rfl (wf_split (n := 14) (C := [wC cA x (pg 0) (bt 0) (se 0) (qr 0) (hd 0) so, wQ cA qr (tq 0) ql qc, wTS cA tq n1 S, wP cA pg kd lo hi co pa rk nu ct sa ((nc : Nat) : Int) ((nr : Nat) : Int)]) (R := [wS cA se tbf (bSp X) (bSg X), wB cA bt (bBs X).1 (bBs X).2.1 (bBs X).2.2.1 (bBs X).2.2.2, wH cA hd pl pr pu qu, wMO cA md ((nc : Nat) : Int) ((nr : Nat) : Int) ke so bu bc pu qu fs cd un hb pf ef, wMP cA md kd lo hi co pa rk nu ct sa, wME cA md fr cs cn ck ch tb cr, wMX cA md fx fv sn, wMB cA md be tr wy, wMH cA md pl pr, poolE cA ad (bTb X) (fun _ => false) k]) [0, 4, 5, 2, 1, 3, 6, 7, 8, 9, 10, 11, 12, 13] rfl (by decide) rfl) rfl rfl (Nat.le_of_ble_eq_true rfl) ⟨by show kc + 0 ≤ 600000; omega, by show ks + 0 ≤ 7302250; omega⟩ hA dL_law_666 (fun v w hv => ?_)
  obtain ⟨S2, ql2, qc2, n2, hv, hq1, hS2, hz9, hw⟩ := hv
  subst hv
  subst hw
  refine g_perm (wfl [wC cA x (pg 0) (bt 0) (se 0) (qr 0) (hd 0) so, wS cA se tbf (bSp X) (bSg X), wP cA pg kd lo hi co pa rk nu ct sa ((nc : Nat) : Int) ((nr : Nat) : Int), wB cA bt (bBs X).1 (bBs X).2.1 (bBs X).2.2.1 (bBs X).2.2.2, wQ cA qr (tq 0) ql2 qc2, wTS cA tq nc S2, wH cA hd pl pr pu qu, wMO cA md ((nc : Nat) : Int) ((nr : Nat) : Int) ke so bu bc pu qu fs cd un hb pf ef, wMP cA md kd lo hi co pa rk nu ct sa, wME cA md fr cs cn ck ch tb cr, wMX cA md fx fv sn, wMB cA md be tr wy, wMH cA md pl pr, poolE cA ad (bTb X) (fun _ => false) k]) (wf_split (n := 14) (C := [wS cA se tbf (bSp X) (bSg X), wB cA bt (bBs X).1 (bBs X).2.1 (bBs X).2.2.1 (bBs X).2.2.2, wH cA hd pl pr pu qu, wMO cA md ((nc : Nat) : Int) ((nr : Nat) : Int) ke so bu bc pu qu fs cd un hb pf ef, wMP cA md kd lo hi co pa rk nu ct sa, wME cA md fr cs cn ck ch tb cr, wMX cA md fx fv sn, wMB cA md be tr wy, wMH cA md pl pr, poolE cA ad (bTb X) (fun _ => false) k]) (R := [wC cA x (pg 0) (bt 0) (se 0) (qr 0) (hd 0) so, wQ cA qr (tq 0) ql2 qc2, wTS cA tq nc S2, wP cA pg kd lo hi co pa rk nu ct sa ((nc : Nat) : Int) ((nr : Nat) : Int)]) [1, 3, 6, 7, 8, 9, 10, 11, 12, 13, 0, 4, 5, 2] rfl (by decide) rfl).symm ?_
  refine g_eq (st' := [iv ((n2 : Nat) : Int)]) rfl rfl rfl ?_
  refine g_aload_n F 2 rfl rfl dL_law_669 ?_
  refine g_callVP F (As := []) (rest := [iv ((n2 : Nat) : Int)]) (wr := wfl [wC cA x (pg 0) (bt 0) (se 0) (qr 0) (hd 0) so, wS cA se tbf (bSp X) (bSg X), wP cA pg kd lo hi co pa rk nu ct sa ((nc : Nat) : Int) ((nr : Nat) : Int), wB cA bt (bBs X).1 (bBs X).2.1 (bBs X).2.2.1 (bBs X).2.2.2, wQ cA qr (tq 0) ql2 qc2, wTS cA tq nc S2, wH cA hd pl pr pu qu, wMB cA md be tr wy, wMH cA md pl pr, poolE cA ad (bTb X) (fun _ => false) k]) (kX7_quarrel l D cA md nc nr ke so bu bc pu qu fs cd un hb pf ef kd lo hi co pa rk nu ct sa fr cs cn ck ch tb cr fx fv sn (by first | assumption | omega) (by first | assumption | omega) (by first | assumption | omega) (by first | assumption | omega) (by first | assumption | omega) (by first | assumption | omega) (by first | assumption | omega) (by first | assumption | omega) (by first | assumption | omega) (by first | assumption | omega)) (cwV 0 F.2.2.2.2.1 gL_law_X7_quarrel rfl rfl rfl (by decide +kernel) ⟨(Nat.le_of_ble_eq_true rfl), (Nat.le_of_ble_eq_true rfl)⟩) rfl rfl (q0 := 0) rfl (wf_split (n := 14) (C := [wMO cA md ((nc : Nat) : Int) ((nr : Nat) : Int) ke so bu bc pu qu fs cd un hb pf ef, wMP cA md kd lo hi co pa rk nu ct sa, wME cA md fr cs cn ck ch tb cr, wMX cA md fx fv sn]) (R := [wC cA x (pg 0) (bt 0) (se 0) (qr 0) (hd 0) so, wS cA se tbf (bSp X) (bSg X), wP cA pg kd lo hi co pa rk nu ct sa ((nc : Nat) : Int) ((nr : Nat) : Int), wB cA bt (bBs X).1 (bBs X).2.1 (bBs X).2.2.1 (bBs X).2.2.2, wQ cA qr (tq 0) ql2 qc2, wTS cA tq nc S2, wH cA hd pl pr pu qu, wMB cA md be tr wy, wMH cA md pl pr, poolE cA ad (bTb X) (fun _ => false) k]) [7, 8, 9, 10, 0, 1, 2, 3, 4, 5, 6, 11, 12, 13] rfl (by decide) rfl) rfl rfl (Nat.le_of_ble_eq_true rfl) ⟨by show kc + 0 ≤ 600000; omega, by show ks + 0 ≤ 7302250; omega⟩ hA dL_law_670 (fun v w hv => ?_)
  obtain ⟨n3, fx3, fr3, fs3, cs3, cn3, ck3, cd3, ch3, tb3, cr3, un3, hq2, hv, hw⟩ := hv
  subst hv
  subst hw
  refine g_perm (wfl [wC cA x (pg 0) (bt 0) (se 0) (qr 0) (hd 0) so, wS cA se tbf (bSp X) (bSg X), wP cA pg kd lo hi co pa rk nu ct sa ((nc : Nat) : Int) ((nr : Nat) : Int), wB cA bt (bBs X).1 (bBs X).2.1 (bBs X).2.2.1 (bBs X).2.2.2, wQ cA qr (tq 0) ql2 qc2, wTS cA tq nc S2, wH cA hd pl pr pu qu, wMO cA md ((nc : Nat) : Int) ((nr : Nat) : Int) ke so bu bc pu qu fs3 cd3 un3 hb pf ef, wMP cA md kd lo hi co pa rk nu ct sa, wME cA md fr3 cs3 cn3 ck3 ch3 tb3 cr3, wMX cA md fx3 fv (mixZ nu sn nr), wMB cA md be tr wy, wMH cA md pl pr, poolE cA ad (bTb X) (fun _ => false) k]) (wf_split (n := 14) (C := [wC cA x (pg 0) (bt 0) (se 0) (qr 0) (hd 0) so, wS cA se tbf (bSp X) (bSg X), wP cA pg kd lo hi co pa rk nu ct sa ((nc : Nat) : Int) ((nr : Nat) : Int), wB cA bt (bBs X).1 (bBs X).2.1 (bBs X).2.2.1 (bBs X).2.2.2, wQ cA qr (tq 0) ql2 qc2, wTS cA tq nc S2, wH cA hd pl pr pu qu, wMB cA md be tr wy, wMH cA md pl pr, poolE cA ad (bTb X) (fun _ => false) k]) (R := [wMO cA md ((nc : Nat) : Int) ((nr : Nat) : Int) ke so bu bc pu qu fs3 cd3 un3 hb pf ef, wMP cA md kd lo hi co pa rk nu ct sa, wME cA md fr3 cs3 cn3 ck3 ch3 tb3 cr3, wMX cA md fx3 fv (mixZ nu sn nr)]) [0, 1, 2, 3, 4, 5, 6, 11, 12, 13, 7, 8, 9, 10] rfl (by decide) rfl).symm ?_
  refine g_eq (st' := [iv ((n3 : Nat) : Int), iv ((n2 : Nat) : Int)]) rfl rfl rfl ?_
  refine g_ieq F (tgt := 887) (by rw [quar_one (Nat.lt_of_lt_of_le (setZ_lt ct nr) (Nat.pow_le_pow_right (n := 2) (by decide) qnr)) hq1 hq2]) dL_law_673 (by decide) ?_
  refine g_widen (kc + 364) (ks + 8112) (by omega) (by omega) ?_
  exact hk kd lo hi co pa rk nu ct sa nc nr so X k ad tbf ql2 qc2 nc S2 pl pr pu qu ke bu bc fs3 cd3 un3 hb pf ef fr3 cs3 cn3 ck3 ch3 tb3 cr3 fx3 fv (mixZ nu sn nr) be tr wy (⟨hI.1, hI.2.1, ⟨hS2, hz9⟩, hI.2.2.2⟩)
