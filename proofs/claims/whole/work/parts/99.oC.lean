set_option maxHeartbeats 4000000 in
set_option maxRecDepth 100000 in
theorem lc_cost {p : Program} {l : Launch} {e : Env} {s : State} {m : MethodId} {below : List Frame} {meth : Method} {c : Code} {Q : State → Prop} {D : va_G} {cA : Nat → ClassId} {A : Nat → Prop} {sb Ln : Nat} {xs : Nat → Int32} {x se pg bt qr tq hd md : Nat → Nat} (F : Fx p s m #[Value.ref sb] meth c cL_law 4 RL wsL_law ret D cA) (hA : ∀ q, s.heap.size ≤ q → A q) (hX : va_X sb Ln xs s s.heap) (hbl : sb < s.heap.size) (hbA : ¬ A sb) (hL : Ln ≤ 2048) (i : Nat) (hi : i + 4 ≤ Ln) (kc ks : Nat) (hkc : kc + 364 ≤ 600000 ∧ ks + 8112 ≤ 7302250) (hk : lwN p l e s m sb below meth c Q D cA A x se pg bt qr tq hd md i (kc + 364) (ks + 8112) 887) : lwN p l e s m sb below meth c Q D cA A x se pg bt qr tq hd md i kc ks 267 := by
  intro kd lo hi co pa rk nu ct sa nc nr so X k ad tbf ql qc n1 S pl pr pu qu ke bu bc fs cd un hb pf ef fr cs cn ck ch tb cr fx fv sn be tr wy hI
  obtain ⟨hpr0, ⟨hS, hbd, hbo, hk51, ht1, ht2, h00⟩, ⟨hSq, hzq⟩, ⟨hpl, hpb, hpr, hqb⟩, ⟨hbm, hke⟩, hrel⟩ := id hI
  obtain ⟨hP, hR, hco, hpa5, hpaN, hle, zs, zc⟩ := id hpr0
  have qnc := hP.1
  have qkd := hP.2.1
  have qlo := hP.2.2.1
  have qhi : ∀ j, hi j = -2000000005 ∨ (-20 ≤ hi j ∧ hi j ≤ 20) := hP.2.2.2.1
  have qnr := hR.1
  have qrk := hR.2.1
  have qnu := hR.2.2.1
  have qnu2 : ∀ j, -198 ≤ nu j ∧ nu j ≤ 198 := fun j => by have := qnu j; omega
  have qsa := hR.2.2.2.1
  have qct := hR.2.2.2.2
  have hbb := hbd.1
  have hbc9 := hbd.2.1
  have hbv := hbd.2.2
  have hbu9 : 0 < bu ∧ bu ≤ 8000000 := hbm.1
  have hbcm : -200000000000 ≤ bc ∧ bc ≤ 200000000000 := hbm.2.1
  have hbem : ∀ j, -200000000000 ≤ be j ∧ be j ≤ 200000000000 := hbm.2.2
  have hpb1 : 1 ≤ pu ∧ pu ≤ 2000000000 := by omega
  have hV := @IM_P D s A
  have hz1 : -2147483648 ≤ (xs (i + 1)).toInt ∧ (xs (i + 1)).toInt ≤ 2147483647 := i32_rng _
  have hz2 : -2147483648 ≤ (xs (i + 2)).toInt ∧ (xs (i + 2)).toInt ≤ 2147483647 := i32_rng _
  have hz3 : -2147483648 ≤ (xs (i + 3)).toInt ∧ (xs (i + 3)).toInt ≤ 2147483647 := i32_rng _
  obtain ⟨z1, hz1e⟩ : ∃ z, z = (xs (i + 1)).toInt := ⟨_, rfl⟩
  obtain ⟨z2, hz2e⟩ : ∃ z, z = (xs (i + 2)).toInt := ⟨_, rfl⟩
  obtain ⟨z3, hz3e⟩ : ∃ z, z = (xs (i + 3)).toInt := ⟨_, rfl⟩
  rw [← hz1e] at hz1
  rw [← hz2e] at hz2
  rw [← hz3e] at hz3
  by_cases hc : (0 ≤ z1 ∧ z1 < (nc : Int)) ∧ -9 ≤ z2 ∧ z2 ≤ 9
  · skip
    refine g_aload_n F 1 rfl rfl dL_law_267 ?_
    refine g_aload_n F 0 rfl rfl dL_law_268 ?_
    refine g_iload_n F 3 rfl rfl dL_law_269 ?_
    refine g_iconst F dL_law_270 ?_
    refine g_iadd F dL_law_271 ?_
    refine g_sld F hX hbl hbA (i + 1) (by omega) (by omega) (by omega) dL_law_272 ?_
    rw [← hz1e]
    refine g_aload_n F 0 rfl rfl dL_law_273 ?_
    refine g_iload_n F 3 rfl rfl dL_law_274 ?_
    refine g_iconst F dL_law_275 ?_
    refine g_iadd F dL_law_276 ?_
    refine g_sld F hX hbl hbA (i + 2) (by omega) (by omega) (by omega) dL_law_277 ?_
    rw [← hz2e]
    refine g_callVP F (As := [iv z1, iv z2]) (rest := []) (wr := wfl [wS cA se tbf (bSp X) (bSg X), wB cA bt (bBs X).1 (bBs X).2.1 (bBs X).2.2.1 (bBs X).2.2.2, wQ cA qr (tq 0) ql qc, wTS cA tq n1 S, wH cA hd pl pr pu qu, wMO cA md ((nc : Nat) : Int) ((nr : Nat) : Int) ke so bu bc pu qu fs cd un hb pf ef, wMP cA md kd lo hi co pa rk nu ct sa, wME cA md fr cs cn ck ch tb cr, wMX cA md fx fv sn, wMB cA md be tr wy, wMH cA md pl pr, poolE cA ad (bTb X) (fun _ => false) k]) (kX6_cost l D cA x (bt 0) (se 0) (qr 0) (hd 0) so pg kd lo hi co pa rk nu ct sa nc nr z1 z2 (by first | assumption | omega) (by first | assumption | omega) (by first | assumption | omega) (by first | assumption | omega) (by first | assumption | omega)) (cwV 2 F.2.2.2.2.1 gL_law_X6_cost rfl rfl rfl (by decide +kernel) ⟨(Nat.le_of_ble_eq_true rfl), (Nat.le_of_ble_eq_true rfl)⟩) rfl rfl (q0 := 0) rfl (wf_split (n := 14) (C := [wC cA x (pg 0) (bt 0) (se 0) (qr 0) (hd 0) so, wP cA pg kd lo hi co pa rk nu ct sa ((nc : Nat) : Int) ((nr : Nat) : Int)]) (R := [wS cA se tbf (bSp X) (bSg X), wB cA bt (bBs X).1 (bBs X).2.1 (bBs X).2.2.1 (bBs X).2.2.2, wQ cA qr (tq 0) ql qc, wTS cA tq n1 S, wH cA hd pl pr pu qu, wMO cA md ((nc : Nat) : Int) ((nr : Nat) : Int) ke so bu bc pu qu fs cd un hb pf ef, wMP cA md kd lo hi co pa rk nu ct sa, wME cA md fr cs cn ck ch tb cr, wMX cA md fx fv sn, wMB cA md be tr wy, wMH cA md pl pr, poolE cA ad (bTb X) (fun _ => false) k]) [0, 2, 1, 3, 4, 5, 6, 7, 8, 9, 10, 11, 12, 13] rfl (by decide) rfl) rfl rfl (Nat.le_of_ble_eq_true rfl) ⟨by show kc + 0 ≤ 600000; omega, by show ks + 0 ≤ 7302250; omega⟩ hA dL_law_278 (fun v w hv => ?_)
    obtain ⟨hv, hw⟩ := hv
    rw [if_pos hc] at hv
    rw [if_pos hc] at hw
    subst hv
    subst hw
    refine g_perm (wfl [wC cA x (pg 0) (bt 0) (se 0) (qr 0) (hd 0) so, wS cA se tbf (bSp X) (bSg X), wP cA pg kd lo hi (va_up co z1.toNat z2) pa rk nu ct sa ((nc : Nat) : Int) ((nr : Nat) : Int), wB cA bt (bBs X).1 (bBs X).2.1 (bBs X).2.2.1 (bBs X).2.2.2, wQ cA qr (tq 0) ql qc, wTS cA tq n1 S, wH cA hd pl pr pu qu, wMO cA md ((nc : Nat) : Int) ((nr : Nat) : Int) ke so bu bc pu qu fs cd un hb pf ef, wMP cA md kd lo hi co pa rk nu ct sa, wME cA md fr cs cn ck ch tb cr, wMX cA md fx fv sn, wMB cA md be tr wy, wMH cA md pl pr, poolE cA ad (bTb X) (fun _ => false) k]) (wf_split (n := 14) (C := [wS cA se tbf (bSp X) (bSg X), wB cA bt (bBs X).1 (bBs X).2.1 (bBs X).2.2.1 (bBs X).2.2.2, wQ cA qr (tq 0) ql qc, wTS cA tq n1 S, wH cA hd pl pr pu qu, wMO cA md ((nc : Nat) : Int) ((nr : Nat) : Int) ke so bu bc pu qu fs cd un hb pf ef, wMP cA md kd lo hi co pa rk nu ct sa, wME cA md fr cs cn ck ch tb cr, wMX cA md fx fv sn, wMB cA md be tr wy, wMH cA md pl pr, poolE cA ad (bTb X) (fun _ => false) k]) (R := [wC cA x (pg 0) (bt 0) (se 0) (qr 0) (hd 0) so, wP cA pg kd lo hi (va_up co z1.toNat z2) pa rk nu ct sa ((nc : Nat) : Int) ((nr : Nat) : Int)]) [1, 3, 4, 5, 6, 7, 8, 9, 10, 11, 12, 13, 0, 2] rfl (by decide) rfl).symm ?_
    refine g_eq (st' := [iv (co z1.toNat)]) rfl rfl rfl ?_
    refine g_aload_n F 2 rfl rfl dL_law_281 ?_
    refine g_aload_n F 0 rfl rfl dL_law_282 ?_
    refine g_iload_n F 3 rfl rfl dL_law_283 ?_
    refine g_iconst F dL_law_284 ?_
    refine g_iadd F dL_law_285 ?_
    refine g_sld F hX hbl hbA (i + 1) (by omega) (by omega) (by omega) dL_law_286 ?_
    rw [← hz1e]
    refine g_aload_n F 0 rfl rfl dL_law_287 ?_
    refine g_iload_n F 3 rfl rfl dL_law_288 ?_
    refine g_iconst F dL_law_289 ?_
    refine g_iadd F dL_law_290 ?_
    refine g_sld F hX hbl hbA (i + 2) (by omega) (by omega) (by omega) dL_law_291 ?_
    rw [← hz2e]
    refine g_callVP F (As := [iv z1, iv z2]) (rest := [iv (co z1.toNat)]) (wr := wfl [wC cA x (pg 0) (bt 0) (se 0) (qr 0) (hd 0) so, wS cA se tbf (bSp X) (bSg X), wP cA pg kd lo hi (va_up co z1.toNat z2) pa rk nu ct sa ((nc : Nat) : Int) ((nr : Nat) : Int), wB cA bt (bBs X).1 (bBs X).2.1 (bBs X).2.2.1 (bBs X).2.2.2, wQ cA qr (tq 0) ql qc, wTS cA tq n1 S, wH cA hd pl pr pu qu, wME cA md fr cs cn ck ch tb cr, wMX cA md fx fv sn, wMB cA md be tr wy, wMH cA md pl pr, poolE cA ad (bTb X) (fun _ => false) k]) (kX7_cost l D cA md nc nr ke so bu bc pu qu fs cd un hb pf ef kd lo hi co pa rk nu ct sa z1 z2 (by first | assumption | omega) (by first | assumption | omega) (by first | assumption | omega) (by first | assumption | omega) (by first | assumption | omega)) (cwV 2 F.2.2.2.2.1 gL_law_X7_cost rfl rfl rfl (by decide +kernel) ⟨(Nat.le_of_ble_eq_true rfl), (Nat.le_of_ble_eq_true rfl)⟩) rfl rfl (q0 := 0) rfl (wf_split (n := 14) (C := [wMO cA md ((nc : Nat) : Int) ((nr : Nat) : Int) ke so bu bc pu qu fs cd un hb pf ef, wMP cA md kd lo hi co pa rk nu ct sa]) (R := [wC cA x (pg 0) (bt 0) (se 0) (qr 0) (hd 0) so, wS cA se tbf (bSp X) (bSg X), wP cA pg kd lo hi (va_up co z1.toNat z2) pa rk nu ct sa ((nc : Nat) : Int) ((nr : Nat) : Int), wB cA bt (bBs X).1 (bBs X).2.1 (bBs X).2.2.1 (bBs X).2.2.2, wQ cA qr (tq 0) ql qc, wTS cA tq n1 S, wH cA hd pl pr pu qu, wME cA md fr cs cn ck ch tb cr, wMX cA md fx fv sn, wMB cA md be tr wy, wMH cA md pl pr, poolE cA ad (bTb X) (fun _ => false) k]) [7, 8, 0, 1, 2, 3, 4, 5, 6, 9, 10, 11, 12, 13] rfl (by decide) rfl) rfl rfl (Nat.le_of_ble_eq_true rfl) ⟨by show kc + 0 ≤ 600000; omega, by show ks + 0 ≤ 7302250; omega⟩ hA dL_law_292 (fun v w hv => ?_)
    obtain ⟨hv, hw⟩ := hv
    rw [if_pos hc] at hv
    rw [if_pos hc] at hw
    subst hv
    subst hw
    refine g_perm (wfl [wC cA x (pg 0) (bt 0) (se 0) (qr 0) (hd 0) so, wS cA se tbf (bSp X) (bSg X), wP cA pg kd lo hi (va_up co z1.toNat z2) pa rk nu ct sa ((nc : Nat) : Int) ((nr : Nat) : Int), wB cA bt (bBs X).1 (bBs X).2.1 (bBs X).2.2.1 (bBs X).2.2.2, wQ cA qr (tq 0) ql qc, wTS cA tq n1 S, wH cA hd pl pr pu qu, wMO cA md ((nc : Nat) : Int) ((nr : Nat) : Int) ke so bu bc pu qu fs cd un hb pf ef, wMP cA md kd lo hi (va_up co z1.toNat z2) pa rk nu ct sa, wME cA md fr cs cn ck ch tb cr, wMX cA md fx fv sn, wMB cA md be tr wy, wMH cA md pl pr, poolE cA ad (bTb X) (fun _ => false) k]) (wf_split (n := 14) (C := [wC cA x (pg 0) (bt 0) (se 0) (qr 0) (hd 0) so, wS cA se tbf (bSp X) (bSg X), wP cA pg kd lo hi (va_up co z1.toNat z2) pa rk nu ct sa ((nc : Nat) : Int) ((nr : Nat) : Int), wB cA bt (bBs X).1 (bBs X).2.1 (bBs X).2.2.1 (bBs X).2.2.2, wQ cA qr (tq 0) ql qc, wTS cA tq n1 S, wH cA hd pl pr pu qu, wME cA md fr cs cn ck ch tb cr, wMX cA md fx fv sn, wMB cA md be tr wy, wMH cA md pl pr, poolE cA ad (bTb X) (fun _ => false) k]) (R := [wMO cA md ((nc : Nat) : Int) ((nr : Nat) : Int) ke so bu bc pu qu fs cd un hb pf ef, wMP cA md kd lo hi (va_up co z1.toNat z2) pa rk nu ct sa]) [0, 1, 2, 3, 4, 5, 6, 9, 10, 11, 12, 13, 7, 8] rfl (by decide) rfl).symm ?_
    refine g_eq (st' := [iv (co z1.toNat), iv (co z1.toNat)]) rfl rfl rfl ?_
    refine g_ieq F (tgt := 887) (rfl) dL_law_295 (by decide) ?_
    refine g_widen (kc + 364) (ks + 8112) (by omega) (by omega) ?_
    exact hk kd lo hi (va_up co z1.toNat z2) pa rk nu ct sa nc nr so X k ad tbf ql qc n1 S pl pr pu qu ke bu bc fs cd un hb pf ef fr cs cn ck ch tb cr fx fv sn be tr wy (⟨pr_cost hpr0 (by omega) (by omega), hI.2⟩)
  · skip
    refine g_aload_n F 1 rfl rfl dL_law_267 ?_
    refine g_aload_n F 0 rfl rfl dL_law_268 ?_
    refine g_iload_n F 3 rfl rfl dL_law_269 ?_
    refine g_iconst F dL_law_270 ?_
    refine g_iadd F dL_law_271 ?_
    refine g_sld F hX hbl hbA (i + 1) (by omega) (by omega) (by omega) dL_law_272 ?_
    rw [← hz1e]
    refine g_aload_n F 0 rfl rfl dL_law_273 ?_
    refine g_iload_n F 3 rfl rfl dL_law_274 ?_
    refine g_iconst F dL_law_275 ?_
    refine g_iadd F dL_law_276 ?_
    refine g_sld F hX hbl hbA (i + 2) (by omega) (by omega) (by omega) dL_law_277 ?_
    rw [← hz2e]
    refine g_callVP F (As := [iv z1, iv z2]) (rest := []) (wr := wfl [wS cA se tbf (bSp X) (bSg X), wB cA bt (bBs X).1 (bBs X).2.1 (bBs X).2.2.1 (bBs X).2.2.2, wQ cA qr (tq 0) ql qc, wTS cA tq n1 S, wH cA hd pl pr pu qu, wMO cA md ((nc : Nat) : Int) ((nr : Nat) : Int) ke so bu bc pu qu fs cd un hb pf ef, wMP cA md kd lo hi co pa rk nu ct sa, wME cA md fr cs cn ck ch tb cr, wMX cA md fx fv sn, wMB cA md be tr wy, wMH cA md pl pr, poolE cA ad (bTb X) (fun _ => false) k]) (kX6_cost l D cA x (bt 0) (se 0) (qr 0) (hd 0) so pg kd lo hi co pa rk nu ct sa nc nr z1 z2 (by first | assumption | omega) (by first | assumption | omega) (by first | assumption | omega) (by first | assumption | omega) (by first | assumption | omega)) (cwV 2 F.2.2.2.2.1 gL_law_X6_cost rfl rfl rfl (by decide +kernel) ⟨(Nat.le_of_ble_eq_true rfl), (Nat.le_of_ble_eq_true rfl)⟩) rfl rfl (q0 := 0) rfl (wf_split (n := 14) (C := [wC cA x (pg 0) (bt 0) (se 0) (qr 0) (hd 0) so, wP cA pg kd lo hi co pa rk nu ct sa ((nc : Nat) : Int) ((nr : Nat) : Int)]) (R := [wS cA se tbf (bSp X) (bSg X), wB cA bt (bBs X).1 (bBs X).2.1 (bBs X).2.2.1 (bBs X).2.2.2, wQ cA qr (tq 0) ql qc, wTS cA tq n1 S, wH cA hd pl pr pu qu, wMO cA md ((nc : Nat) : Int) ((nr : Nat) : Int) ke so bu bc pu qu fs cd un hb pf ef, wMP cA md kd lo hi co pa rk nu ct sa, wME cA md fr cs cn ck ch tb cr, wMX cA md fx fv sn, wMB cA md be tr wy, wMH cA md pl pr, poolE cA ad (bTb X) (fun _ => false) k]) [0, 2, 1, 3, 4, 5, 6, 7, 8, 9, 10, 11, 12, 13] rfl (by decide) rfl) rfl rfl (Nat.le_of_ble_eq_true rfl) ⟨by show kc + 0 ≤ 600000; omega, by show ks + 0 ≤ 7302250; omega⟩ hA dL_law_278 (fun v w hv => ?_)
    obtain ⟨hv, hw⟩ := hv
    rw [if_neg hc] at hv
    rw [if_neg hc] at hw
    subst hv
    subst hw
    refine g_perm (wfl [wC cA x (pg 0) (bt 0) (se 0) (qr 0) (hd 0) so, wS cA se tbf (bSp X) (bSg X), wP cA pg kd lo hi co pa rk nu ct sa ((nc : Nat) : Int) ((nr : Nat) : Int), wB cA bt (bBs X).1 (bBs X).2.1 (bBs X).2.2.1 (bBs X).2.2.2, wQ cA qr (tq 0) ql qc, wTS cA tq n1 S, wH cA hd pl pr pu qu, wMO cA md ((nc : Nat) : Int) ((nr : Nat) : Int) ke so bu bc pu qu fs cd un hb pf ef, wMP cA md kd lo hi co pa rk nu ct sa, wME cA md fr cs cn ck ch tb cr, wMX cA md fx fv sn, wMB cA md be tr wy, wMH cA md pl pr, poolE cA ad (bTb X) (fun _ => false) k]) (wf_split (n := 14) (C := [wS cA se tbf (bSp X) (bSg X), wB cA bt (bBs X).1 (bBs X).2.1 (bBs X).2.2.1 (bBs X).2.2.2, wQ cA qr (tq 0) ql qc, wTS cA tq n1 S, wH cA hd pl pr pu qu, wMO cA md ((nc : Nat) : Int) ((nr : Nat) : Int) ke so bu bc pu qu fs cd un hb pf ef, wMP cA md kd lo hi co pa rk nu ct sa, wME cA md fr cs cn ck ch tb cr, wMX cA md fx fv sn, wMB cA md be tr wy, wMH cA md pl pr, poolE cA ad (bTb X) (fun _ => false) k]) (R := [wC cA x (pg 0) (bt 0) (se 0) (qr 0) (hd 0) so, wP cA pg kd lo hi co pa rk nu ct sa ((nc : Nat) : Int) ((nr : Nat) : Int)]) [1, 3, 4, 5, 6, 7, 8, 9, 10, 11, 12, 13, 0, 2] rfl (by decide) rfl).symm ?_
    refine g_eq (st' := [iv (-2000000001)]) rfl rfl rfl ?_
    refine g_aload_n F 2 rfl rfl dL_law_281 ?_
    refine g_aload_n F 0 rfl rfl dL_law_282 ?_
    refine g_iload_n F 3 rfl rfl dL_law_283 ?_
    refine g_iconst F dL_law_284 ?_
    refine g_iadd F dL_law_285 ?_
    refine g_sld F hX hbl hbA (i + 1) (by omega) (by omega) (by omega) dL_law_286 ?_
    rw [← hz1e]
    refine g_aload_n F 0 rfl rfl dL_law_287 ?_
    refine g_iload_n F 3 rfl rfl dL_law_288 ?_
    refine g_iconst F dL_law_289 ?_
    refine g_iadd F dL_law_290 ?_
    refine g_sld F hX hbl hbA (i + 2) (by omega) (by omega) (by omega) dL_law_291 ?_
    rw [← hz2e]
    refine g_callVP F (As := [iv z1, iv z2]) (rest := [iv (-2000000001)]) (wr := wfl [wC cA x (pg 0) (bt 0) (se 0) (qr 0) (hd 0) so, wS cA se tbf (bSp X) (bSg X), wP cA pg kd lo hi co pa rk nu ct sa ((nc : Nat) : Int) ((nr : Nat) : Int), wB cA bt (bBs X).1 (bBs X).2.1 (bBs X).2.2.1 (bBs X).2.2.2, wQ cA qr (tq 0) ql qc, wTS cA tq n1 S, wH cA hd pl pr pu qu, wME cA md fr cs cn ck ch tb cr, wMX cA md fx fv sn, wMB cA md be tr wy, wMH cA md pl pr, poolE cA ad (bTb X) (fun _ => false) k]) (kX7_cost l D cA md nc nr ke so bu bc pu qu fs cd un hb pf ef kd lo hi co pa rk nu ct sa z1 z2 (by first | assumption | omega) (by first | assumption | omega) (by first | assumption | omega) (by first | assumption | omega) (by first | assumption | omega)) (cwV 2 F.2.2.2.2.1 gL_law_X7_cost rfl rfl rfl (by decide +kernel) ⟨(Nat.le_of_ble_eq_true rfl), (Nat.le_of_ble_eq_true rfl)⟩) rfl rfl (q0 := 0) rfl (wf_split (n := 14) (C := [wMO cA md ((nc : Nat) : Int) ((nr : Nat) : Int) ke so bu bc pu qu fs cd un hb pf ef, wMP cA md kd lo hi co pa rk nu ct sa]) (R := [wC cA x (pg 0) (bt 0) (se 0) (qr 0) (hd 0) so, wS cA se tbf (bSp X) (bSg X), wP cA pg kd lo hi co pa rk nu ct sa ((nc : Nat) : Int) ((nr : Nat) : Int), wB cA bt (bBs X).1 (bBs X).2.1 (bBs X).2.2.1 (bBs X).2.2.2, wQ cA qr (tq 0) ql qc, wTS cA tq n1 S, wH cA hd pl pr pu qu, wME cA md fr cs cn ck ch tb cr, wMX cA md fx fv sn, wMB cA md be tr wy, wMH cA md pl pr, poolE cA ad (bTb X) (fun _ => false) k]) [7, 8, 0, 1, 2, 3, 4, 5, 6, 9, 10, 11, 12, 13] rfl (by decide) rfl) rfl rfl (Nat.le_of_ble_eq_true rfl) ⟨by show kc + 0 ≤ 600000; omega, by show ks + 0 ≤ 7302250; omega⟩ hA dL_law_292 (fun v w hv => ?_)
    obtain ⟨hv, hw⟩ := hv
    rw [if_neg hc] at hv
    rw [if_neg hc] at hw
    subst hv
    subst hw
    refine g_perm (wfl [wC cA x (pg 0) (bt 0) (se 0) (qr 0) (hd 0) so, wS cA se tbf (bSp X) (bSg X), wP cA pg kd lo hi co pa rk nu ct sa ((nc : Nat) : Int) ((nr : Nat) : Int), wB cA bt (bBs X).1 (bBs X).2.1 (bBs X).2.2.1 (bBs X).2.2.2, wQ cA qr (tq 0) ql qc, wTS cA tq n1 S, wH cA hd pl pr pu qu, wMO cA md ((nc : Nat) : Int) ((nr : Nat) : Int) ke so bu bc pu qu fs cd un hb pf ef, wMP cA md kd lo hi co pa rk nu ct sa, wME cA md fr cs cn ck ch tb cr, wMX cA md fx fv sn, wMB cA md be tr wy, wMH cA md pl pr, poolE cA ad (bTb X) (fun _ => false) k]) (wf_split (n := 14) (C := [wC cA x (pg 0) (bt 0) (se 0) (qr 0) (hd 0) so, wS cA se tbf (bSp X) (bSg X), wP cA pg kd lo hi co pa rk nu ct sa ((nc : Nat) : Int) ((nr : Nat) : Int), wB cA bt (bBs X).1 (bBs X).2.1 (bBs X).2.2.1 (bBs X).2.2.2, wQ cA qr (tq 0) ql qc, wTS cA tq n1 S, wH cA hd pl pr pu qu, wME cA md fr cs cn ck ch tb cr, wMX cA md fx fv sn, wMB cA md be tr wy, wMH cA md pl pr, poolE cA ad (bTb X) (fun _ => false) k]) (R := [wMO cA md ((nc : Nat) : Int) ((nr : Nat) : Int) ke so bu bc pu qu fs cd un hb pf ef, wMP cA md kd lo hi co pa rk nu ct sa]) [0, 1, 2, 3, 4, 5, 6, 9, 10, 11, 12, 13, 7, 8] rfl (by decide) rfl).symm ?_
    refine g_eq (st' := [iv (-2000000001), iv (-2000000001)]) rfl rfl rfl ?_
    refine g_ieq F (tgt := 887) (rfl) dL_law_295 (by decide) ?_
    refine g_widen (kc + 364) (ks + 8112) (by omega) (by omega) ?_
    exact hk kd lo hi co pa rk nu ct sa nc nr so X k ad tbf ql qc n1 S pl pr pu qu ke bu bc fs cd un hb pf ef fr cs cn ck ch tb cr fx fv sn be tr wy (hI)

set_option maxHeartbeats 4000000 in
set_option maxRecDepth 100000 in
theorem lc_number {p : Program} {l : Launch} {e : Env} {s : State} {m : MethodId} {below : List Frame} {meth : Method} {c : Code} {Q : State → Prop} {D : va_G} {cA : Nat → ClassId} {A : Nat → Prop} {sb Ln : Nat} {xs : Nat → Int32} {x se pg bt qr tq hd md : Nat → Nat} (F : Fx p s m #[Value.ref sb] meth c cL_law 4 RL wsL_law ret D cA) (hA : ∀ q, s.heap.size ≤ q → A q) (hX : va_X sb Ln xs s s.heap) (hbl : sb < s.heap.size) (hbA : ¬ A sb) (hL : Ln ≤ 2048) (i : Nat) (hi : i + 4 ≤ Ln) (kc ks : Nat) (hkc : kc + 364 ≤ 600000 ∧ ks + 8112 ≤ 7302250) (hk : lwN p l e s m sb below meth c Q D cA A x se pg bt qr tq hd md i (kc + 364) (ks + 8112) 887) : lwN p l e s m sb below meth c Q D cA A x se pg bt qr tq hd md i kc ks 376 := by
  intro kd lo hi co pa rk nu ct sa nc nr so X k ad tbf ql qc n1 S pl pr pu qu ke bu bc fs cd un hb pf ef fr cs cn ck ch tb cr fx fv sn be tr wy hI
  obtain ⟨hpr0, ⟨hS, hbd, hbo, hk51, ht1, ht2, h00⟩, ⟨hSq, hzq⟩, ⟨hpl, hpb, hpr, hqb⟩, ⟨hbm, hke⟩, hrel⟩ := id hI
  obtain ⟨hP, hR, hco, hpa5, hpaN, hle, zs, zc⟩ := id hpr0
  have qnc := hP.1
  have qkd := hP.2.1
  have qlo := hP.2.2.1
  have qhi : ∀ j, hi j = -2000000005 ∨ (-20 ≤ hi j ∧ hi j ≤ 20) := hP.2.2.2.1
  have qnr := hR.1
  have qrk := hR.2.1
  have qnu := hR.2.2.1
  have qnu2 : ∀ j, -198 ≤ nu j ∧ nu j ≤ 198 := fun j => by have := qnu j; omega
  have qsa := hR.2.2.2.1
  have qct := hR.2.2.2.2
  have hbb := hbd.1
  have hbc9 := hbd.2.1
  have hbv := hbd.2.2
  have hbu9 : 0 < bu ∧ bu ≤ 8000000 := hbm.1
  have hbcm : -200000000000 ≤ bc ∧ bc ≤ 200000000000 := hbm.2.1
  have hbem : ∀ j, -200000000000 ≤ be j ∧ be j ≤ 200000000000 := hbm.2.2
  have hpb1 : 1 ≤ pu ∧ pu ≤ 2000000000 := by omega
  have hV := @IM_P D s A
  have hz1 : -2147483648 ≤ (xs (i + 1)).toInt ∧ (xs (i + 1)).toInt ≤ 2147483647 := i32_rng _
  have hz2 : -2147483648 ≤ (xs (i + 2)).toInt ∧ (xs (i + 2)).toInt ≤ 2147483647 := i32_rng _
  have hz3 : -2147483648 ≤ (xs (i + 3)).toInt ∧ (xs (i + 3)).toInt ≤ 2147483647 := i32_rng _
  obtain ⟨z1, hz1e⟩ : ∃ z, z = (xs (i + 1)).toInt := ⟨_, rfl⟩
  obtain ⟨z2, hz2e⟩ : ∃ z, z = (xs (i + 2)).toInt := ⟨_, rfl⟩
  obtain ⟨z3, hz3e⟩ : ∃ z, z = (xs (i + 3)).toInt := ⟨_, rfl⟩
  rw [← hz1e] at hz1
  rw [← hz2e] at hz2
  rw [← hz3e] at hz3
  by_cases hc : (0 ≤ z1 ∧ z1 < (nr : Int)) ∧ -99 ≤ z2 ∧ z2 ≤ 99
  · skip
    refine g_aload_n F 1 rfl rfl dL_law_376 ?_
    refine g_aload_n F 0 rfl rfl dL_law_377 ?_
    refine g_iload_n F 3 rfl rfl dL_law_378 ?_
    refine g_iconst F dL_law_379 ?_
    refine g_iadd F dL_law_380 ?_
    refine g_sld F hX hbl hbA (i + 1) (by omega) (by omega) (by omega) dL_law_381 ?_
    rw [← hz1e]
    refine g_aload_n F 0 rfl rfl dL_law_382 ?_
    refine g_iload_n F 3 rfl rfl dL_law_383 ?_
    refine g_iconst F dL_law_384 ?_
    refine g_iadd F dL_law_385 ?_
    refine g_sld F hX hbl hbA (i + 2) (by omega) (by omega) (by omega) dL_law_386 ?_
    rw [← hz2e]
    refine g_callVP F (As := [iv z1, iv z2]) (rest := []) (wr := wfl [wS cA se tbf (bSp X) (bSg X), wB cA bt (bBs X).1 (bBs X).2.1 (bBs X).2.2.1 (bBs X).2.2.2, wQ cA qr (tq 0) ql qc, wTS cA tq n1 S, wH cA hd pl pr pu qu, wMO cA md ((nc : Nat) : Int) ((nr : Nat) : Int) ke so bu bc pu qu fs cd un hb pf ef, wMP cA md kd lo hi co pa rk nu ct sa, wME cA md fr cs cn ck ch tb cr, wMX cA md fx fv sn, wMB cA md be tr wy, wMH cA md pl pr, poolE cA ad (bTb X) (fun _ => false) k]) (kX6_number l D cA x (bt 0) (se 0) (qr 0) (hd 0) so pg kd lo hi co pa rk nu ct sa nc nr z1 z2 (by first | assumption | omega) (by first | assumption | omega) (by first | assumption | omega) (by first | assumption | omega) (by first | assumption | omega)) (cwV 2 F.2.2.2.2.1 gL_law_X6_number rfl rfl rfl (by decide +kernel) ⟨(Nat.le_of_ble_eq_true rfl), (Nat.le_of_ble_eq_true rfl)⟩) rfl rfl (q0 := 0) rfl (wf_split (n := 14) (C := [wC cA x (pg 0) (bt 0) (se 0) (qr 0) (hd 0) so, wP cA pg kd lo hi co pa rk nu ct sa ((nc : Nat) : Int) ((nr : Nat) : Int)]) (R := [wS cA se tbf (bSp X) (bSg X), wB cA bt (bBs X).1 (bBs X).2.1 (bBs X).2.2.1 (bBs X).2.2.2, wQ cA qr (tq 0) ql qc, wTS cA tq n1 S, wH cA hd pl pr pu qu, wMO cA md ((nc : Nat) : Int) ((nr : Nat) : Int) ke so bu bc pu qu fs cd un hb pf ef, wMP cA md kd lo hi co pa rk nu ct sa, wME cA md fr cs cn ck ch tb cr, wMX cA md fx fv sn, wMB cA md be tr wy, wMH cA md pl pr, poolE cA ad (bTb X) (fun _ => false) k]) [0, 2, 1, 3, 4, 5, 6, 7, 8, 9, 10, 11, 12, 13] rfl (by decide) rfl) rfl rfl (Nat.le_of_ble_eq_true rfl) ⟨by show kc + 0 ≤ 600000; omega, by show ks + 0 ≤ 7302250; omega⟩ hA dL_law_387 (fun v w hv => ?_)
    obtain ⟨hv, hw⟩ := hv
    rw [if_pos hc] at hv
    rw [if_pos hc] at hw
    subst hv
    subst hw
    refine g_perm (wfl [wC cA x (pg 0) (bt 0) (se 0) (qr 0) (hd 0) so, wS cA se tbf (bSp X) (bSg X), wP cA pg kd lo hi co pa rk (va_up nu z1.toNat z2) ct sa ((nc : Nat) : Int) ((nr : Nat) : Int), wB cA bt (bBs X).1 (bBs X).2.1 (bBs X).2.2.1 (bBs X).2.2.2, wQ cA qr (tq 0) ql qc, wTS cA tq n1 S, wH cA hd pl pr pu qu, wMO cA md ((nc : Nat) : Int) ((nr : Nat) : Int) ke so bu bc pu qu fs cd un hb pf ef, wMP cA md kd lo hi co pa rk nu ct sa, wME cA md fr cs cn ck ch tb cr, wMX cA md fx fv sn, wMB cA md be tr wy, wMH cA md pl pr, poolE cA ad (bTb X) (fun _ => false) k]) (wf_split (n := 14) (C := [wS cA se tbf (bSp X) (bSg X), wB cA bt (bBs X).1 (bBs X).2.1 (bBs X).2.2.1 (bBs X).2.2.2, wQ cA qr (tq 0) ql qc, wTS cA tq n1 S, wH cA hd pl pr pu qu, wMO cA md ((nc : Nat) : Int) ((nr : Nat) : Int) ke so bu bc pu qu fs cd un hb pf ef, wMP cA md kd lo hi co pa rk nu ct sa, wME cA md fr cs cn ck ch tb cr, wMX cA md fx fv sn, wMB cA md be tr wy, wMH cA md pl pr, poolE cA ad (bTb X) (fun _ => false) k]) (R := [wC cA x (pg 0) (bt 0) (se 0) (qr 0) (hd 0) so, wP cA pg kd lo hi co pa rk (va_up nu z1.toNat z2) ct sa ((nc : Nat) : Int) ((nr : Nat) : Int)]) [1, 3, 4, 5, 6, 7, 8, 9, 10, 11, 12, 13, 0, 2] rfl (by decide) rfl).symm ?_
    refine g_eq (st' := [iv (nu z1.toNat)]) rfl rfl rfl ?_
    refine g_aload_n F 2 rfl rfl dL_law_390 ?_
    refine g_aload_n F 0 rfl rfl dL_law_391 ?_
    refine g_iload_n F 3 rfl rfl dL_law_392 ?_
    refine g_iconst F dL_law_393 ?_
    refine g_iadd F dL_law_394 ?_
    refine g_sld F hX hbl hbA (i + 1) (by omega) (by omega) (by omega) dL_law_395 ?_
    rw [← hz1e]
    refine g_aload_n F 0 rfl rfl dL_law_396 ?_
    refine g_iload_n F 3 rfl rfl dL_law_397 ?_
    refine g_iconst F dL_law_398 ?_
    refine g_iadd F dL_law_399 ?_
    refine g_sld F hX hbl hbA (i + 2) (by omega) (by omega) (by omega) dL_law_400 ?_
    rw [← hz2e]
    refine g_callVP F (As := [iv z1, iv z2]) (rest := [iv (nu z1.toNat)]) (wr := wfl [wC cA x (pg 0) (bt 0) (se 0) (qr 0) (hd 0) so, wS cA se tbf (bSp X) (bSg X), wP cA pg kd lo hi co pa rk (va_up nu z1.toNat z2) ct sa ((nc : Nat) : Int) ((nr : Nat) : Int), wB cA bt (bBs X).1 (bBs X).2.1 (bBs X).2.2.1 (bBs X).2.2.2, wQ cA qr (tq 0) ql qc, wTS cA tq n1 S, wH cA hd pl pr pu qu, wME cA md fr cs cn ck ch tb cr, wMX cA md fx fv sn, wMB cA md be tr wy, wMH cA md pl pr, poolE cA ad (bTb X) (fun _ => false) k]) (kX7_number l D cA md nc nr ke so bu bc pu qu fs cd un hb pf ef kd lo hi co pa rk nu ct sa z1 z2 (by first | assumption | omega) (by first | assumption | omega) (by first | assumption | omega) (by first | assumption | omega) (by first | assumption | omega)) (cwV 2 F.2.2.2.2.1 gL_law_X7_number rfl rfl rfl (by decide +kernel) ⟨(Nat.le_of_ble_eq_true rfl), (Nat.le_of_ble_eq_true rfl)⟩) rfl rfl (q0 := 0) rfl (wf_split (n := 14) (C := [wMO cA md ((nc : Nat) : Int) ((nr : Nat) : Int) ke so bu bc pu qu fs cd un hb pf ef, wMP cA md kd lo hi co pa rk nu ct sa]) (R := [wC cA x (pg 0) (bt 0) (se 0) (qr 0) (hd 0) so, wS cA se tbf (bSp X) (bSg X), wP cA pg kd lo hi co pa rk (va_up nu z1.toNat z2) ct sa ((nc : Nat) : Int) ((nr : Nat) : Int), wB cA bt (bBs X).1 (bBs X).2.1 (bBs X).2.2.1 (bBs X).2.2.2, wQ cA qr (tq 0) ql qc, wTS cA tq n1 S, wH cA hd pl pr pu qu, wME cA md fr cs cn ck ch tb cr, wMX cA md fx fv sn, wMB cA md be tr wy, wMH cA md pl pr, poolE cA ad (bTb X) (fun _ => false) k]) [7, 8, 0, 1, 2, 3, 4, 5, 6, 9, 10, 11, 12, 13] rfl (by decide) rfl) rfl rfl (Nat.le_of_ble_eq_true rfl) ⟨by show kc + 0 ≤ 600000; omega, by show ks + 0 ≤ 7302250; omega⟩ hA dL_law_401 (fun v w hv => ?_)
    obtain ⟨hv, hw⟩ := hv
    rw [if_pos hc] at hv
    rw [if_pos hc] at hw
    subst hv
    subst hw
    refine g_perm (wfl [wC cA x (pg 0) (bt 0) (se 0) (qr 0) (hd 0) so, wS cA se tbf (bSp X) (bSg X), wP cA pg kd lo hi co pa rk (va_up nu z1.toNat z2) ct sa ((nc : Nat) : Int) ((nr : Nat) : Int), wB cA bt (bBs X).1 (bBs X).2.1 (bBs X).2.2.1 (bBs X).2.2.2, wQ cA qr (tq 0) ql qc, wTS cA tq n1 S, wH cA hd pl pr pu qu, wMO cA md ((nc : Nat) : Int) ((nr : Nat) : Int) ke so bu bc pu qu fs cd un hb pf ef, wMP cA md kd lo hi co pa rk (va_up nu z1.toNat z2) ct sa, wME cA md fr cs cn ck ch tb cr, wMX cA md fx fv sn, wMB cA md be tr wy, wMH cA md pl pr, poolE cA ad (bTb X) (fun _ => false) k]) (wf_split (n := 14) (C := [wC cA x (pg 0) (bt 0) (se 0) (qr 0) (hd 0) so, wS cA se tbf (bSp X) (bSg X), wP cA pg kd lo hi co pa rk (va_up nu z1.toNat z2) ct sa ((nc : Nat) : Int) ((nr : Nat) : Int), wB cA bt (bBs X).1 (bBs X).2.1 (bBs X).2.2.1 (bBs X).2.2.2, wQ cA qr (tq 0) ql qc, wTS cA tq n1 S, wH cA hd pl pr pu qu, wME cA md fr cs cn ck ch tb cr, wMX cA md fx fv sn, wMB cA md be tr wy, wMH cA md pl pr, poolE cA ad (bTb X) (fun _ => false) k]) (R := [wMO cA md ((nc : Nat) : Int) ((nr : Nat) : Int) ke so bu bc pu qu fs cd un hb pf ef, wMP cA md kd lo hi co pa rk (va_up nu z1.toNat z2) ct sa]) [0, 1, 2, 3, 4, 5, 6, 9, 10, 11, 12, 13, 7, 8] rfl (by decide) rfl).symm ?_
    refine g_eq (st' := [iv (nu z1.toNat), iv (nu z1.toNat)]) rfl rfl rfl ?_
    refine g_ieq F (tgt := 887) (rfl) dL_law_404 (by decide) ?_
    refine g_widen (kc + 364) (ks + 8112) (by omega) (by omega) ?_
    exact hk kd lo hi co pa rk (va_up nu z1.toNat z2) ct sa nc nr so X k ad tbf ql qc n1 S pl pr pu qu ke bu bc fs cd un hb pf ef fr cs cn ck ch tb cr fx fv sn be tr wy (⟨pr_number hpr0 (by omega), hI.2⟩)
  · skip
    refine g_aload_n F 1 rfl rfl dL_law_376 ?_
    refine g_aload_n F 0 rfl rfl dL_law_377 ?_
    refine g_iload_n F 3 rfl rfl dL_law_378 ?_
    refine g_iconst F dL_law_379 ?_
    refine g_iadd F dL_law_380 ?_
    refine g_sld F hX hbl hbA (i + 1) (by omega) (by omega) (by omega) dL_law_381 ?_
    rw [← hz1e]
    refine g_aload_n F 0 rfl rfl dL_law_382 ?_
    refine g_iload_n F 3 rfl rfl dL_law_383 ?_
    refine g_iconst F dL_law_384 ?_
    refine g_iadd F dL_law_385 ?_
    refine g_sld F hX hbl hbA (i + 2) (by omega) (by omega) (by omega) dL_law_386 ?_
    rw [← hz2e]
    refine g_callVP F (As := [iv z1, iv z2]) (rest := []) (wr := wfl [wS cA se tbf (bSp X) (bSg X), wB cA bt (bBs X).1 (bBs X).2.1 (bBs X).2.2.1 (bBs X).2.2.2, wQ cA qr (tq 0) ql qc, wTS cA tq n1 S, wH cA hd pl pr pu qu, wMO cA md ((nc : Nat) : Int) ((nr : Nat) : Int) ke so bu bc pu qu fs cd un hb pf ef, wMP cA md kd lo hi co pa rk nu ct sa, wME cA md fr cs cn ck ch tb cr, wMX cA md fx fv sn, wMB cA md be tr wy, wMH cA md pl pr, poolE cA ad (bTb X) (fun _ => false) k]) (kX6_number l D cA x (bt 0) (se 0) (qr 0) (hd 0) so pg kd lo hi co pa rk nu ct sa nc nr z1 z2 (by first | assumption | omega) (by first | assumption | omega) (by first | assumption | omega) (by first | assumption | omega) (by first | assumption | omega)) (cwV 2 F.2.2.2.2.1 gL_law_X6_number rfl rfl rfl (by decide +kernel) ⟨(Nat.le_of_ble_eq_true rfl), (Nat.le_of_ble_eq_true rfl)⟩) rfl rfl (q0 := 0) rfl (wf_split (n := 14) (C := [wC cA x (pg 0) (bt 0) (se 0) (qr 0) (hd 0) so, wP cA pg kd lo hi co pa rk nu ct sa ((nc : Nat) : Int) ((nr : Nat) : Int)]) (R := [wS cA se tbf (bSp X) (bSg X), wB cA bt (bBs X).1 (bBs X).2.1 (bBs X).2.2.1 (bBs X).2.2.2, wQ cA qr (tq 0) ql qc, wTS cA tq n1 S, wH cA hd pl pr pu qu, wMO cA md ((nc : Nat) : Int) ((nr : Nat) : Int) ke so bu bc pu qu fs cd un hb pf ef, wMP cA md kd lo hi co pa rk nu ct sa, wME cA md fr cs cn ck ch tb cr, wMX cA md fx fv sn, wMB cA md be tr wy, wMH cA md pl pr, poolE cA ad (bTb X) (fun _ => false) k]) [0, 2, 1, 3, 4, 5, 6, 7, 8, 9, 10, 11, 12, 13] rfl (by decide) rfl) rfl rfl (Nat.le_of_ble_eq_true rfl) ⟨by show kc + 0 ≤ 600000; omega, by show ks + 0 ≤ 7302250; omega⟩ hA dL_law_387 (fun v w hv => ?_)
    obtain ⟨hv, hw⟩ := hv
    rw [if_neg hc] at hv
    rw [if_neg hc] at hw
    subst hv
    subst hw
    refine g_perm (wfl [wC cA x (pg 0) (bt 0) (se 0) (qr 0) (hd 0) so, wS cA se tbf (bSp X) (bSg X), wP cA pg kd lo hi co pa rk nu ct sa ((nc : Nat) : Int) ((nr : Nat) : Int), wB cA bt (bBs X).1 (bBs X).2.1 (bBs X).2.2.1 (bBs X).2.2.2, wQ cA qr (tq 0) ql qc, wTS cA tq n1 S, wH cA hd pl pr pu qu, wMO cA md ((nc : Nat) : Int) ((nr : Nat) : Int) ke so bu bc pu qu fs cd un hb pf ef, wMP cA md kd lo hi co pa rk nu ct sa, wME cA md fr cs cn ck ch tb cr, wMX cA md fx fv sn, wMB cA md be tr wy, wMH cA md pl pr, poolE cA ad (bTb X) (fun _ => false) k]) (wf_split (n := 14) (C := [wS cA se tbf (bSp X) (bSg X), wB cA bt (bBs X).1 (bBs X).2.1 (bBs X).2.2.1 (bBs X).2.2.2, wQ cA qr (tq 0) ql qc, wTS cA tq n1 S, wH cA hd pl pr pu qu, wMO cA md ((nc : Nat) : Int) ((nr : Nat) : Int) ke so bu bc pu qu fs cd un hb pf ef, wMP cA md kd lo hi co pa rk nu ct sa, wME cA md fr cs cn ck ch tb cr, wMX cA md fx fv sn, wMB cA md be tr wy, wMH cA md pl pr, poolE cA ad (bTb X) (fun _ => false) k]) (R := [wC cA x (pg 0) (bt 0) (se 0) (qr 0) (hd 0) so, wP cA pg kd lo hi co pa rk nu ct sa ((nc : Nat) : Int) ((nr : Nat) : Int)]) [1, 3, 4, 5, 6, 7, 8, 9, 10, 11, 12, 13, 0, 2] rfl (by decide) rfl).symm ?_
    refine g_eq (st' := [iv (-2000000001)]) rfl rfl rfl ?_
    refine g_aload_n F 2 rfl rfl dL_law_390 ?_
    refine g_aload_n F 0 rfl rfl dL_law_391 ?_
    refine g_iload_n F 3 rfl rfl dL_law_392 ?_
    refine g_iconst F dL_law_393 ?_
    refine g_iadd F dL_law_394 ?_
    refine g_sld F hX hbl hbA (i + 1) (by omega) (by omega) (by omega) dL_law_395 ?_
    rw [← hz1e]
    refine g_aload_n F 0 rfl rfl dL_law_396 ?_
    refine g_iload_n F 3 rfl rfl dL_law_397 ?_
    refine g_iconst F dL_law_398 ?_
    refine g_iadd F dL_law_399 ?_
    refine g_sld F hX hbl hbA (i + 2) (by omega) (by omega) (by omega) dL_law_400 ?_
    rw [← hz2e]
    refine g_callVP F (As := [iv z1, iv z2]) (rest := [iv (-2000000001)]) (wr := wfl [wC cA x (pg 0) (bt 0) (se 0) (qr 0) (hd 0) so, wS cA se tbf (bSp X) (bSg X), wP cA pg kd lo hi co pa rk nu ct sa ((nc : Nat) : Int) ((nr : Nat) : Int), wB cA bt (bBs X).1 (bBs X).2.1 (bBs X).2.2.1 (bBs X).2.2.2, wQ cA qr (tq 0) ql qc, wTS cA tq n1 S, wH cA hd pl pr pu qu, wME cA md fr cs cn ck ch tb cr, wMX cA md fx fv sn, wMB cA md be tr wy, wMH cA md pl pr, poolE cA ad (bTb X) (fun _ => false) k]) (kX7_number l D cA md nc nr ke so bu bc pu qu fs cd un hb pf ef kd lo hi co pa rk nu ct sa z1 z2 (by first | assumption | omega) (by first | assumption | omega) (by first | assumption | omega) (by first | assumption | omega) (by first | assumption | omega)) (cwV 2 F.2.2.2.2.1 gL_law_X7_number rfl rfl rfl (by decide +kernel) ⟨(Nat.le_of_ble_eq_true rfl), (Nat.le_of_ble_eq_true rfl)⟩) rfl rfl (q0 := 0) rfl (wf_split (n := 14) (C := [wMO cA md ((nc : Nat) : Int) ((nr : Nat) : Int) ke so bu bc pu qu fs cd un hb pf ef, wMP cA md kd lo hi co pa rk nu ct sa]) (R := [wC cA x (pg 0) (bt 0) (se 0) (qr 0) (hd 0) so, wS cA se tbf (bSp X) (bSg X), wP cA pg kd lo hi co pa rk nu ct sa ((nc : Nat) : Int) ((nr : Nat) : Int), wB cA bt (bBs X).1 (bBs X).2.1 (bBs X).2.2.1 (bBs X).2.2.2, wQ cA qr (tq 0) ql qc, wTS cA tq n1 S, wH cA hd pl pr pu qu, wME cA md fr cs cn ck ch tb cr, wMX cA md fx fv sn, wMB cA md be tr wy, wMH cA md pl pr, poolE cA ad (bTb X) (fun _ => false) k]) [7, 8, 0, 1, 2, 3, 4, 5, 6, 9, 10, 11, 12, 13] rfl (by decide) rfl) rfl rfl (Nat.le_of_ble_eq_true rfl) ⟨by show kc + 0 ≤ 600000; omega, by show ks + 0 ≤ 7302250; omega⟩ hA dL_law_401 (fun v w hv => ?_)
    obtain ⟨hv, hw⟩ := hv
    rw [if_neg hc] at hv
    rw [if_neg hc] at hw
    subst hv
    subst hw
    refine g_perm (wfl [wC cA x (pg 0) (bt 0) (se 0) (qr 0) (hd 0) so, wS cA se tbf (bSp X) (bSg X), wP cA pg kd lo hi co pa rk nu ct sa ((nc : Nat) : Int) ((nr : Nat) : Int), wB cA bt (bBs X).1 (bBs X).2.1 (bBs X).2.2.1 (bBs X).2.2.2, wQ cA qr (tq 0) ql qc, wTS cA tq n1 S, wH cA hd pl pr pu qu, wMO cA md ((nc : Nat) : Int) ((nr : Nat) : Int) ke so bu bc pu qu fs cd un hb pf ef, wMP cA md kd lo hi co pa rk nu ct sa, wME cA md fr cs cn ck ch tb cr, wMX cA md fx fv sn, wMB cA md be tr wy, wMH cA md pl pr, poolE cA ad (bTb X) (fun _ => false) k]) (wf_split (n := 14) (C := [wC cA x (pg 0) (bt 0) (se 0) (qr 0) (hd 0) so, wS cA se tbf (bSp X) (bSg X), wP cA pg kd lo hi co pa rk nu ct sa ((nc : Nat) : Int) ((nr : Nat) : Int), wB cA bt (bBs X).1 (bBs X).2.1 (bBs X).2.2.1 (bBs X).2.2.2, wQ cA qr (tq 0) ql qc, wTS cA tq n1 S, wH cA hd pl pr pu qu, wME cA md fr cs cn ck ch tb cr, wMX cA md fx fv sn, wMB cA md be tr wy, wMH cA md pl pr, poolE cA ad (bTb X) (fun _ => false) k]) (R := [wMO cA md ((nc : Nat) : Int) ((nr : Nat) : Int) ke so bu bc pu qu fs cd un hb pf ef, wMP cA md kd lo hi co pa rk nu ct sa]) [0, 1, 2, 3, 4, 5, 6, 9, 10, 11, 12, 13, 7, 8] rfl (by decide) rfl).symm ?_
    refine g_eq (st' := [iv (-2000000001), iv (-2000000001)]) rfl rfl rfl ?_
    refine g_ieq F (tgt := 887) (rfl) dL_law_404 (by decide) ?_
    refine g_widen (kc + 364) (ks + 8112) (by omega) (by omega) ?_
    exact hk kd lo hi co pa rk nu ct sa nc nr so X k ad tbf ql qc n1 S pl pr pu qu ke bu bc fs cd un hb pf ef fr cs cn ck ch tb cr fx fv sn be tr wy (hI)

set_option maxHeartbeats 4000000 in
set_option maxRecDepth 100000 in
theorem lc_counts {p : Program} {l : Launch} {e : Env} {s : State} {m : MethodId} {below : List Frame} {meth : Method} {c : Code} {Q : State → Prop} {D : va_G} {cA : Nat → ClassId} {A : Nat → Prop} {sb Ln : Nat} {xs : Nat → Int32} {x se pg bt qr tq hd md : Nat → Nat} (F : Fx p s m #[Value.ref sb] meth c cL_law 4 RL wsL_law ret D cA) (hA : ∀ q, s.heap.size ≤ q → A q) (hX : va_X sb Ln xs s s.heap) (hbl : sb < s.heap.size) (hbA : ¬ A sb) (hL : Ln ≤ 2048) (i : Nat) (hi : i + 4 ≤ Ln) (kc ks : Nat) (hkc : kc + 364 ≤ 600000 ∧ ks + 8112 ≤ 7302250) (hk : lwN p l e s m sb below meth c Q D cA A x se pg bt qr tq hd md i (kc + 364) (ks + 8112) 887) : lwN p l e s m sb below meth c Q D cA A x se pg bt qr tq hd md i kc ks 409 := by
  intro kd lo hi co pa rk nu ct sa nc nr so X k ad tbf ql qc n1 S pl pr pu qu ke bu bc fs cd un hb pf ef fr cs cn ck ch tb cr fx fv sn be tr wy hI
  obtain ⟨hpr0, ⟨hS, hbd, hbo, hk51, ht1, ht2, h00⟩, ⟨hSq, hzq⟩, ⟨hpl, hpb, hpr, hqb⟩, ⟨hbm, hke⟩, hrel⟩ := id hI
  obtain ⟨hP, hR, hco, hpa5, hpaN, hle, zs, zc⟩ := id hpr0
  have qnc := hP.1
  have qkd := hP.2.1
  have qlo := hP.2.2.1
  have qhi : ∀ j, hi j = -2000000005 ∨ (-20 ≤ hi j ∧ hi j ≤ 20) := hP.2.2.2.1
  have qnr := hR.1
  have qrk := hR.2.1
  have qnu := hR.2.2.1
  have qnu2 : ∀ j, -198 ≤ nu j ∧ nu j ≤ 198 := fun j => by have := qnu j; omega
  have qsa := hR.2.2.2.1
  have qct := hR.2.2.2.2
  have hbb := hbd.1
  have hbc9 := hbd.2.1
  have hbv := hbd.2.2
  have hbu9 : 0 < bu ∧ bu ≤ 8000000 := hbm.1
  have hbcm : -200000000000 ≤ bc ∧ bc ≤ 200000000000 := hbm.2.1
  have hbem : ∀ j, -200000000000 ≤ be j ∧ be j ≤ 200000000000 := hbm.2.2
  have hpb1 : 1 ≤ pu ∧ pu ≤ 2000000000 := by omega
  have hV := @IM_P D s A
  have hz1 : -2147483648 ≤ (xs (i + 1)).toInt ∧ (xs (i + 1)).toInt ≤ 2147483647 := i32_rng _
  have hz2 : -2147483648 ≤ (xs (i + 2)).toInt ∧ (xs (i + 2)).toInt ≤ 2147483647 := i32_rng _
  have hz3 : -2147483648 ≤ (xs (i + 3)).toInt ∧ (xs (i + 3)).toInt ≤ 2147483647 := i32_rng _
  obtain ⟨z1, hz1e⟩ : ∃ z, z = (xs (i + 1)).toInt := ⟨_, rfl⟩
  obtain ⟨z2, hz2e⟩ : ∃ z, z = (xs (i + 2)).toInt := ⟨_, rfl⟩
  obtain ⟨z3, hz3e⟩ : ∃ z, z = (xs (i + 3)).toInt := ⟨_, rfl⟩
  rw [← hz1e] at hz1
  rw [← hz2e] at hz2
  rw [← hz3e] at hz3
  by_cases hc : (0 ≤ z1 ∧ z1 < (nr : Int)) ∧ (z2 = 0 ∨ z2 = 1)
  · skip
    refine g_aload_n F 1 rfl rfl dL_law_409 ?_
    refine g_aload_n F 0 rfl rfl dL_law_410 ?_
    refine g_iload_n F 3 rfl rfl dL_law_411 ?_
    refine g_iconst F dL_law_412 ?_
    refine g_iadd F dL_law_413 ?_
    refine g_sld F hX hbl hbA (i + 1) (by omega) (by omega) (by omega) dL_law_414 ?_
    rw [← hz1e]
    refine g_aload_n F 0 rfl rfl dL_law_415 ?_
    refine g_iload_n F 3 rfl rfl dL_law_416 ?_
    refine g_iconst F dL_law_417 ?_
    refine g_iadd F dL_law_418 ?_
    refine g_sld F hX hbl hbA (i + 2) (by omega) (by omega) (by omega) dL_law_419 ?_
    rw [← hz2e]
    refine g_callVP F (As := [iv z1, iv z2]) (rest := []) (wr := wfl [wS cA se tbf (bSp X) (bSg X), wB cA bt (bBs X).1 (bBs X).2.1 (bBs X).2.2.1 (bBs X).2.2.2, wQ cA qr (tq 0) ql qc, wTS cA tq n1 S, wH cA hd pl pr pu qu, wMO cA md ((nc : Nat) : Int) ((nr : Nat) : Int) ke so bu bc pu qu fs cd un hb pf ef, wMP cA md kd lo hi co pa rk nu ct sa, wME cA md fr cs cn ck ch tb cr, wMX cA md fx fv sn, wMB cA md be tr wy, wMH cA md pl pr, poolE cA ad (bTb X) (fun _ => false) k]) (kX6_counts l D cA x (bt 0) (se 0) (qr 0) (hd 0) so pg kd lo hi co pa rk nu ct sa nc nr z1 z2 (by first | assumption | omega) (by first | assumption | omega) (by first | assumption | omega) (by first | assumption | omega) (by first | assumption | omega)) (cwV 2 F.2.2.2.2.1 gL_law_X6_counts rfl rfl rfl (by decide +kernel) ⟨(Nat.le_of_ble_eq_true rfl), (Nat.le_of_ble_eq_true rfl)⟩) rfl rfl (q0 := 0) rfl (wf_split (n := 14) (C := [wC cA x (pg 0) (bt 0) (se 0) (qr 0) (hd 0) so, wP cA pg kd lo hi co pa rk nu ct sa ((nc : Nat) : Int) ((nr : Nat) : Int)]) (R := [wS cA se tbf (bSp X) (bSg X), wB cA bt (bBs X).1 (bBs X).2.1 (bBs X).2.2.1 (bBs X).2.2.2, wQ cA qr (tq 0) ql qc, wTS cA tq n1 S, wH cA hd pl pr pu qu, wMO cA md ((nc : Nat) : Int) ((nr : Nat) : Int) ke so bu bc pu qu fs cd un hb pf ef, wMP cA md kd lo hi co pa rk nu ct sa, wME cA md fr cs cn ck ch tb cr, wMX cA md fx fv sn, wMB cA md be tr wy, wMH cA md pl pr, poolE cA ad (bTb X) (fun _ => false) k]) [0, 2, 1, 3, 4, 5, 6, 7, 8, 9, 10, 11, 12, 13] rfl (by decide) rfl) rfl rfl (Nat.le_of_ble_eq_true rfl) ⟨by show kc + 0 ≤ 600000; omega, by show ks + 0 ≤ 7302250; omega⟩ hA dL_law_420 (fun v w hv => ?_)
    obtain ⟨hv, hw⟩ := hv
    rw [if_pos hc] at hv
    rw [if_pos hc] at hw
    subst hv
    subst hw
    refine g_perm (wfl [wC cA x (pg 0) (bt 0) (se 0) (qr 0) (hd 0) so, wS cA se tbf (bSp X) (bSg X), wP cA pg kd lo hi co pa rk nu (va_up ct z1.toNat z2) sa ((nc : Nat) : Int) ((nr : Nat) : Int), wB cA bt (bBs X).1 (bBs X).2.1 (bBs X).2.2.1 (bBs X).2.2.2, wQ cA qr (tq 0) ql qc, wTS cA tq n1 S, wH cA hd pl pr pu qu, wMO cA md ((nc : Nat) : Int) ((nr : Nat) : Int) ke so bu bc pu qu fs cd un hb pf ef, wMP cA md kd lo hi co pa rk nu ct sa, wME cA md fr cs cn ck ch tb cr, wMX cA md fx fv sn, wMB cA md be tr wy, wMH cA md pl pr, poolE cA ad (bTb X) (fun _ => false) k]) (wf_split (n := 14) (C := [wS cA se tbf (bSp X) (bSg X), wB cA bt (bBs X).1 (bBs X).2.1 (bBs X).2.2.1 (bBs X).2.2.2, wQ cA qr (tq 0) ql qc, wTS cA tq n1 S, wH cA hd pl pr pu qu, wMO cA md ((nc : Nat) : Int) ((nr : Nat) : Int) ke so bu bc pu qu fs cd un hb pf ef, wMP cA md kd lo hi co pa rk nu ct sa, wME cA md fr cs cn ck ch tb cr, wMX cA md fx fv sn, wMB cA md be tr wy, wMH cA md pl pr, poolE cA ad (bTb X) (fun _ => false) k]) (R := [wC cA x (pg 0) (bt 0) (se 0) (qr 0) (hd 0) so, wP cA pg kd lo hi co pa rk nu (va_up ct z1.toNat z2) sa ((nc : Nat) : Int) ((nr : Nat) : Int)]) [1, 3, 4, 5, 6, 7, 8, 9, 10, 11, 12, 13, 0, 2] rfl (by decide) rfl).symm ?_
    refine g_eq (st' := [iv (ct z1.toNat)]) rfl rfl rfl ?_
    refine g_aload_n F 2 rfl rfl dL_law_423 ?_
    refine g_aload_n F 0 rfl rfl dL_law_424 ?_
    refine g_iload_n F 3 rfl rfl dL_law_425 ?_
    refine g_iconst F dL_law_426 ?_
    refine g_iadd F dL_law_427 ?_
    refine g_sld F hX hbl hbA (i + 1) (by omega) (by omega) (by omega) dL_law_428 ?_
    rw [← hz1e]
    refine g_aload_n F 0 rfl rfl dL_law_429 ?_
    refine g_iload_n F 3 rfl rfl dL_law_430 ?_
    refine g_iconst F dL_law_431 ?_
    refine g_iadd F dL_law_432 ?_
    refine g_sld F hX hbl hbA (i + 2) (by omega) (by omega) (by omega) dL_law_433 ?_
    rw [← hz2e]
    refine g_callVP F (As := [iv z1, iv z2]) (rest := [iv (ct z1.toNat)]) (wr := wfl [wC cA x (pg 0) (bt 0) (se 0) (qr 0) (hd 0) so, wS cA se tbf (bSp X) (bSg X), wP cA pg kd lo hi co pa rk nu (va_up ct z1.toNat z2) sa ((nc : Nat) : Int) ((nr : Nat) : Int), wB cA bt (bBs X).1 (bBs X).2.1 (bBs X).2.2.1 (bBs X).2.2.2, wQ cA qr (tq 0) ql qc, wTS cA tq n1 S, wH cA hd pl pr pu qu, wME cA md fr cs cn ck ch tb cr, wMX cA md fx fv sn, wMB cA md be tr wy, wMH cA md pl pr, poolE cA ad (bTb X) (fun _ => false) k]) (kX7_counts l D cA md nc nr ke so bu bc pu qu fs cd un hb pf ef kd lo hi co pa rk nu ct sa z1 z2 (by first | assumption | omega) (by first | assumption | omega) (by first | assumption | omega) (by first | assumption | omega) (by first | assumption | omega) (by first | assumption | omega)) (cwV 2 F.2.2.2.2.1 gL_law_X7_counts rfl rfl rfl (by decide +kernel) ⟨(Nat.le_of_ble_eq_true rfl), (Nat.le_of_ble_eq_true rfl)⟩) rfl rfl (q0 := 0) rfl (wf_split (n := 14) (C := [wMO cA md ((nc : Nat) : Int) ((nr : Nat) : Int) ke so bu bc pu qu fs cd un hb pf ef, wMP cA md kd lo hi co pa rk nu ct sa]) (R := [wC cA x (pg 0) (bt 0) (se 0) (qr 0) (hd 0) so, wS cA se tbf (bSp X) (bSg X), wP cA pg kd lo hi co pa rk nu (va_up ct z1.toNat z2) sa ((nc : Nat) : Int) ((nr : Nat) : Int), wB cA bt (bBs X).1 (bBs X).2.1 (bBs X).2.2.1 (bBs X).2.2.2, wQ cA qr (tq 0) ql qc, wTS cA tq n1 S, wH cA hd pl pr pu qu, wME cA md fr cs cn ck ch tb cr, wMX cA md fx fv sn, wMB cA md be tr wy, wMH cA md pl pr, poolE cA ad (bTb X) (fun _ => false) k]) [7, 8, 0, 1, 2, 3, 4, 5, 6, 9, 10, 11, 12, 13] rfl (by decide) rfl) rfl rfl (Nat.le_of_ble_eq_true rfl) ⟨by show kc + 0 ≤ 600000; omega, by show ks + 0 ≤ 7302250; omega⟩ hA dL_law_434 (fun v w hv => ?_)
    obtain ⟨hv, hw⟩ := hv
    rw [if_pos hc] at hv
    rw [if_pos hc] at hw
    subst hv
    subst hw
    refine g_perm (wfl [wC cA x (pg 0) (bt 0) (se 0) (qr 0) (hd 0) so, wS cA se tbf (bSp X) (bSg X), wP cA pg kd lo hi co pa rk nu (va_up ct z1.toNat z2) sa ((nc : Nat) : Int) ((nr : Nat) : Int), wB cA bt (bBs X).1 (bBs X).2.1 (bBs X).2.2.1 (bBs X).2.2.2, wQ cA qr (tq 0) ql qc, wTS cA tq n1 S, wH cA hd pl pr pu qu, wMO cA md ((nc : Nat) : Int) ((nr : Nat) : Int) ke so bu bc pu qu fs cd un hb pf ef, wMP cA md kd lo hi co pa rk nu (va_up ct z1.toNat z2) sa, wME cA md fr cs cn ck ch tb cr, wMX cA md fx fv sn, wMB cA md be tr wy, wMH cA md pl pr, poolE cA ad (bTb X) (fun _ => false) k]) (wf_split (n := 14) (C := [wC cA x (pg 0) (bt 0) (se 0) (qr 0) (hd 0) so, wS cA se tbf (bSp X) (bSg X), wP cA pg kd lo hi co pa rk nu (va_up ct z1.toNat z2) sa ((nc : Nat) : Int) ((nr : Nat) : Int), wB cA bt (bBs X).1 (bBs X).2.1 (bBs X).2.2.1 (bBs X).2.2.2, wQ cA qr (tq 0) ql qc, wTS cA tq n1 S, wH cA hd pl pr pu qu, wME cA md fr cs cn ck ch tb cr, wMX cA md fx fv sn, wMB cA md be tr wy, wMH cA md pl pr, poolE cA ad (bTb X) (fun _ => false) k]) (R := [wMO cA md ((nc : Nat) : Int) ((nr : Nat) : Int) ke so bu bc pu qu fs cd un hb pf ef, wMP cA md kd lo hi co pa rk nu (va_up ct z1.toNat z2) sa]) [0, 1, 2, 3, 4, 5, 6, 9, 10, 11, 12, 13, 7, 8] rfl (by decide) rfl).symm ?_
    refine g_eq (st' := [iv (ct z1.toNat), iv (ct z1.toNat)]) rfl rfl rfl ?_
    refine g_ieq F (tgt := 887) (rfl) dL_law_437 (by decide) ?_
    refine g_widen (kc + 364) (ks + 8112) (by omega) (by omega) ?_
    exact hk kd lo hi co pa rk nu (va_up ct z1.toNat z2) sa nc nr so X k ad tbf ql qc n1 S pl pr pu qu ke bu bc fs cd un hb pf ef fr cs cn ck ch tb cr fx fv sn be tr wy (⟨pr_counts hpr0 hc.2, hI.2⟩)
  · skip
    refine g_aload_n F 1 rfl rfl dL_law_409 ?_
    refine g_aload_n F 0 rfl rfl dL_law_410 ?_
    refine g_iload_n F 3 rfl rfl dL_law_411 ?_
    refine g_iconst F dL_law_412 ?_
    refine g_iadd F dL_law_413 ?_
    refine g_sld F hX hbl hbA (i + 1) (by omega) (by omega) (by omega) dL_law_414 ?_
    rw [← hz1e]
    refine g_aload_n F 0 rfl rfl dL_law_415 ?_
    refine g_iload_n F 3 rfl rfl dL_law_416 ?_
    refine g_iconst F dL_law_417 ?_
    refine g_iadd F dL_law_418 ?_
    refine g_sld F hX hbl hbA (i + 2) (by omega) (by omega) (by omega) dL_law_419 ?_
    rw [← hz2e]
    refine g_callVP F (As := [iv z1, iv z2]) (rest := []) (wr := wfl [wS cA se tbf (bSp X) (bSg X), wB cA bt (bBs X).1 (bBs X).2.1 (bBs X).2.2.1 (bBs X).2.2.2, wQ cA qr (tq 0) ql qc, wTS cA tq n1 S, wH cA hd pl pr pu qu, wMO cA md ((nc : Nat) : Int) ((nr : Nat) : Int) ke so bu bc pu qu fs cd un hb pf ef, wMP cA md kd lo hi co pa rk nu ct sa, wME cA md fr cs cn ck ch tb cr, wMX cA md fx fv sn, wMB cA md be tr wy, wMH cA md pl pr, poolE cA ad (bTb X) (fun _ => false) k]) (kX6_counts l D cA x (bt 0) (se 0) (qr 0) (hd 0) so pg kd lo hi co pa rk nu ct sa nc nr z1 z2 (by first | assumption | omega) (by first | assumption | omega) (by first | assumption | omega) (by first | assumption | omega) (by first | assumption | omega)) (cwV 2 F.2.2.2.2.1 gL_law_X6_counts rfl rfl rfl (by decide +kernel) ⟨(Nat.le_of_ble_eq_true rfl), (Nat.le_of_ble_eq_true rfl)⟩) rfl rfl (q0 := 0) rfl (wf_split (n := 14) (C := [wC cA x (pg 0) (bt 0) (se 0) (qr 0) (hd 0) so, wP cA pg kd lo hi co pa rk nu ct sa ((nc : Nat) : Int) ((nr : Nat) : Int)]) (R := [wS cA se tbf (bSp X) (bSg X), wB cA bt (bBs X).1 (bBs X).2.1 (bBs X).2.2.1 (bBs X).2.2.2, wQ cA qr (tq 0) ql qc, wTS cA tq n1 S, wH cA hd pl pr pu qu, wMO cA md ((nc : Nat) : Int) ((nr : Nat) : Int) ke so bu bc pu qu fs cd un hb pf ef, wMP cA md kd lo hi co pa rk nu ct sa, wME cA md fr cs cn ck ch tb cr, wMX cA md fx fv sn, wMB cA md be tr wy, wMH cA md pl pr, poolE cA ad (bTb X) (fun _ => false) k]) [0, 2, 1, 3, 4, 5, 6, 7, 8, 9, 10, 11, 12, 13] rfl (by decide) rfl) rfl rfl (Nat.le_of_ble_eq_true rfl) ⟨by show kc + 0 ≤ 600000; omega, by show ks + 0 ≤ 7302250; omega⟩ hA dL_law_420 (fun v w hv => ?_)
    obtain ⟨hv, hw⟩ := hv
    rw [if_neg hc] at hv
    rw [if_neg hc] at hw
    subst hv
    subst hw
    refine g_perm (wfl [wC cA x (pg 0) (bt 0) (se 0) (qr 0) (hd 0) so, wS cA se tbf (bSp X) (bSg X), wP cA pg kd lo hi co pa rk nu ct sa ((nc : Nat) : Int) ((nr : Nat) : Int), wB cA bt (bBs X).1 (bBs X).2.1 (bBs X).2.2.1 (bBs X).2.2.2, wQ cA qr (tq 0) ql qc, wTS cA tq n1 S, wH cA hd pl pr pu qu, wMO cA md ((nc : Nat) : Int) ((nr : Nat) : Int) ke so bu bc pu qu fs cd un hb pf ef, wMP cA md kd lo hi co pa rk nu ct sa, wME cA md fr cs cn ck ch tb cr, wMX cA md fx fv sn, wMB cA md be tr wy, wMH cA md pl pr, poolE cA ad (bTb X) (fun _ => false) k]) (wf_split (n := 14) (C := [wS cA se tbf (bSp X) (bSg X), wB cA bt (bBs X).1 (bBs X).2.1 (bBs X).2.2.1 (bBs X).2.2.2, wQ cA qr (tq 0) ql qc, wTS cA tq n1 S, wH cA hd pl pr pu qu, wMO cA md ((nc : Nat) : Int) ((nr : Nat) : Int) ke so bu bc pu qu fs cd un hb pf ef, wMP cA md kd lo hi co pa rk nu ct sa, wME cA md fr cs cn ck ch tb cr, wMX cA md fx fv sn, wMB cA md be tr wy, wMH cA md pl pr, poolE cA ad (bTb X) (fun _ => false) k]) (R := [wC cA x (pg 0) (bt 0) (se 0) (qr 0) (hd 0) so, wP cA pg kd lo hi co pa rk nu ct sa ((nc : Nat) : Int) ((nr : Nat) : Int)]) [1, 3, 4, 5, 6, 7, 8, 9, 10, 11, 12, 13, 0, 2] rfl (by decide) rfl).symm ?_
    refine g_eq (st' := [iv (-2000000001)]) rfl rfl rfl ?_
    refine g_aload_n F 2 rfl rfl dL_law_423 ?_
    refine g_aload_n F 0 rfl rfl dL_law_424 ?_
    refine g_iload_n F 3 rfl rfl dL_law_425 ?_
    refine g_iconst F dL_law_426 ?_
    refine g_iadd F dL_law_427 ?_
    refine g_sld F hX hbl hbA (i + 1) (by omega) (by omega) (by omega) dL_law_428 ?_
    rw [← hz1e]
    refine g_aload_n F 0 rfl rfl dL_law_429 ?_
    refine g_iload_n F 3 rfl rfl dL_law_430 ?_
    refine g_iconst F dL_law_431 ?_
    refine g_iadd F dL_law_432 ?_
    refine g_sld F hX hbl hbA (i + 2) (by omega) (by omega) (by omega) dL_law_433 ?_
    rw [← hz2e]
    refine g_callVP F (As := [iv z1, iv z2]) (rest := [iv (-2000000001)]) (wr := wfl [wC cA x (pg 0) (bt 0) (se 0) (qr 0) (hd 0) so, wS cA se tbf (bSp X) (bSg X), wP cA pg kd lo hi co pa rk nu ct sa ((nc : Nat) : Int) ((nr : Nat) : Int), wB cA bt (bBs X).1 (bBs X).2.1 (bBs X).2.2.1 (bBs X).2.2.2, wQ cA qr (tq 0) ql qc, wTS cA tq n1 S, wH cA hd pl pr pu qu, wME cA md fr cs cn ck ch tb cr, wMX cA md fx fv sn, wMB cA md be tr wy, wMH cA md pl pr, poolE cA ad (bTb X) (fun _ => false) k]) (kX7_counts l D cA md nc nr ke so bu bc pu qu fs cd un hb pf ef kd lo hi co pa rk nu ct sa z1 z2 (by first | assumption | omega) (by first | assumption | omega) (by first | assumption | omega) (by first | assumption | omega) (by first | assumption | omega) (by first | assumption | omega)) (cwV 2 F.2.2.2.2.1 gL_law_X7_counts rfl rfl rfl (by decide +kernel) ⟨(Nat.le_of_ble_eq_true rfl), (Nat.le_of_ble_eq_true rfl)⟩) rfl rfl (q0 := 0) rfl (wf_split (n := 14) (C := [wMO cA md ((nc : Nat) : Int) ((nr : Nat) : Int) ke so bu bc pu qu fs cd un hb pf ef, wMP cA md kd lo hi co pa rk nu ct sa]) (R := [wC cA x (pg 0) (bt 0) (se 0) (qr 0) (hd 0) so, wS cA se tbf (bSp X) (bSg X), wP cA pg kd lo hi co pa rk nu ct sa ((nc : Nat) : Int) ((nr : Nat) : Int), wB cA bt (bBs X).1 (bBs X).2.1 (bBs X).2.2.1 (bBs X).2.2.2, wQ cA qr (tq 0) ql qc, wTS cA tq n1 S, wH cA hd pl pr pu qu, wME cA md fr cs cn ck ch tb cr, wMX cA md fx fv sn, wMB cA md be tr wy, wMH cA md pl pr, poolE cA ad (bTb X) (fun _ => false) k]) [7, 8, 0, 1, 2, 3, 4, 5, 6, 9, 10, 11, 12, 13] rfl (by decide) rfl) rfl rfl (Nat.le_of_ble_eq_true rfl) ⟨by show kc + 0 ≤ 600000; omega, by show ks + 0 ≤ 7302250; omega⟩ hA dL_law_434 (fun v w hv => ?_)
    obtain ⟨hv, hw⟩ := hv
    rw [if_neg hc] at hv
    rw [if_neg hc] at hw
    subst hv
    subst hw
    refine g_perm (wfl [wC cA x (pg 0) (bt 0) (se 0) (qr 0) (hd 0) so, wS cA se tbf (bSp X) (bSg X), wP cA pg kd lo hi co pa rk nu ct sa ((nc : Nat) : Int) ((nr : Nat) : Int), wB cA bt (bBs X).1 (bBs X).2.1 (bBs X).2.2.1 (bBs X).2.2.2, wQ cA qr (tq 0) ql qc, wTS cA tq n1 S, wH cA hd pl pr pu qu, wMO cA md ((nc : Nat) : Int) ((nr : Nat) : Int) ke so bu bc pu qu fs cd un hb pf ef, wMP cA md kd lo hi co pa rk nu ct sa, wME cA md fr cs cn ck ch tb cr, wMX cA md fx fv sn, wMB cA md be tr wy, wMH cA md pl pr, poolE cA ad (bTb X) (fun _ => false) k]) (wf_split (n := 14) (C := [wC cA x (pg 0) (bt 0) (se 0) (qr 0) (hd 0) so, wS cA se tbf (bSp X) (bSg X), wP cA pg kd lo hi co pa rk nu ct sa ((nc : Nat) : Int) ((nr : Nat) : Int), wB cA bt (bBs X).1 (bBs X).2.1 (bBs X).2.2.1 (bBs X).2.2.2, wQ cA qr (tq 0) ql qc, wTS cA tq n1 S, wH cA hd pl pr pu qu, wME cA md fr cs cn ck ch tb cr, wMX cA md fx fv sn, wMB cA md be tr wy, wMH cA md pl pr, poolE cA ad (bTb X) (fun _ => false) k]) (R := [wMO cA md ((nc : Nat) : Int) ((nr : Nat) : Int) ke so bu bc pu qu fs cd un hb pf ef, wMP cA md kd lo hi co pa rk nu ct sa]) [0, 1, 2, 3, 4, 5, 6, 9, 10, 11, 12, 13, 7, 8] rfl (by decide) rfl).symm ?_
    refine g_eq (st' := [iv (-2000000001), iv (-2000000001)]) rfl rfl rfl ?_
    refine g_ieq F (tgt := 887) (rfl) dL_law_437 (by decide) ?_
    refine g_widen (kc + 364) (ks + 8112) (by omega) (by omega) ?_
    exact hk kd lo hi co pa rk nu ct sa nc nr so X k ad tbf ql qc n1 S pl pr pu qu ke bu bc fs cd un hb pf ef fr cs cn ck ch tb cr fx fv sn be tr wy (hI)

set_option maxHeartbeats 4000000 in
set_option maxRecDepth 100000 in
theorem lc_share {p : Program} {l : Launch} {e : Env} {s : State} {m : MethodId} {below : List Frame} {meth : Method} {c : Code} {Q : State → Prop} {D : va_G} {cA : Nat → ClassId} {A : Nat → Prop} {sb Ln : Nat} {xs : Nat → Int32} {x se pg bt qr tq hd md : Nat → Nat} (F : Fx p s m #[Value.ref sb] meth c cL_law 4 RL wsL_law ret D cA) (hA : ∀ q, s.heap.size ≤ q → A q) (hX : va_X sb Ln xs s s.heap) (hbl : sb < s.heap.size) (hbA : ¬ A sb) (hL : Ln ≤ 2048) (i : Nat) (hi : i + 4 ≤ Ln) (kc ks : Nat) (hkc : kc + 364 ≤ 600000 ∧ ks + 8112 ≤ 7302250) (hk : lwN p l e s m sb below meth c Q D cA A x se pg bt qr tq hd md i (kc + 364) (ks + 8112) 887) : lwN p l e s m sb below meth c Q D cA A x se pg bt qr tq hd md i kc ks 333 := by
  intro kd lo hi co pa rk nu ct sa nc nr so X k ad tbf ql qc n1 S pl pr pu qu ke bu bc fs cd un hb pf ef fr cs cn ck ch tb cr fx fv sn be tr wy hI
  obtain ⟨hpr0, ⟨hS, hbd, hbo, hk51, ht1, ht2, h00⟩, ⟨hSq, hzq⟩, ⟨hpl, hpb, hpr, hqb⟩, ⟨hbm, hke⟩, hrel⟩ := id hI
  obtain ⟨hP, hR, hco, hpa5, hpaN, hle, zs, zc⟩ := id hpr0
  have qnc := hP.1
  have qkd := hP.2.1
  have qlo := hP.2.2.1
  have qhi : ∀ j, hi j = -2000000005 ∨ (-20 ≤ hi j ∧ hi j ≤ 20) := hP.2.2.2.1
  have qnr := hR.1
  have qrk := hR.2.1
  have qnu := hR.2.2.1
  have qnu2 : ∀ j, -198 ≤ nu j ∧ nu j ≤ 198 := fun j => by have := qnu j; omega
  have qsa := hR.2.2.2.1
  have qct := hR.2.2.2.2
  have hbb := hbd.1
  have hbc9 := hbd.2.1
  have hbv := hbd.2.2
  have hbu9 : 0 < bu ∧ bu ≤ 8000000 := hbm.1
  have hbcm : -200000000000 ≤ bc ∧ bc ≤ 200000000000 := hbm.2.1
  have hbem : ∀ j, -200000000000 ≤ be j ∧ be j ≤ 200000000000 := hbm.2.2
  have hpb1 : 1 ≤ pu ∧ pu ≤ 2000000000 := by omega
  have hV := @IM_P D s A
  have hz1 : -2147483648 ≤ (xs (i + 1)).toInt ∧ (xs (i + 1)).toInt ≤ 2147483647 := i32_rng _
  have hz2 : -2147483648 ≤ (xs (i + 2)).toInt ∧ (xs (i + 2)).toInt ≤ 2147483647 := i32_rng _
  have hz3 : -2147483648 ≤ (xs (i + 3)).toInt ∧ (xs (i + 3)).toInt ≤ 2147483647 := i32_rng _
  obtain ⟨z1, hz1e⟩ : ∃ z, z = (xs (i + 1)).toInt := ⟨_, rfl⟩
  obtain ⟨z2, hz2e⟩ : ∃ z, z = (xs (i + 2)).toInt := ⟨_, rfl⟩
  obtain ⟨z3, hz3e⟩ : ∃ z, z = (xs (i + 3)).toInt := ⟨_, rfl⟩
  rw [← hz1e] at hz1
  rw [← hz2e] at hz2
  rw [← hz3e] at hz3
  by_cases hc : (0 ≤ z1 ∧ z1 < (nr : Int)) ∧ (0 ≤ z2 ∧ z2 < (nc : Int)) ∧ -9 ≤ z3 ∧ z3 ≤ 9
  · skip
    refine g_aload_n F 1 rfl rfl dL_law_333 ?_
    refine g_aload_n F 0 rfl rfl dL_law_334 ?_
    refine g_iload_n F 3 rfl rfl dL_law_335 ?_
    refine g_iconst F dL_law_336 ?_
    refine g_iadd F dL_law_337 ?_
    refine g_sld F hX hbl hbA (i + 1) (by omega) (by omega) (by omega) dL_law_338 ?_
    rw [← hz1e]
    refine g_aload_n F 0 rfl rfl dL_law_339 ?_
    refine g_iload_n F 3 rfl rfl dL_law_340 ?_
    refine g_iconst F dL_law_341 ?_
    refine g_iadd F dL_law_342 ?_
    refine g_sld F hX hbl hbA (i + 2) (by omega) (by omega) (by omega) dL_law_343 ?_
    rw [← hz2e]
    refine g_aload_n F 0 rfl rfl dL_law_344 ?_
    refine g_iload_n F 3 rfl rfl dL_law_345 ?_
    refine g_iconst F dL_law_346 ?_
    refine g_iadd F dL_law_347 ?_
    refine g_sld F hX hbl hbA (i + 3) (by omega) (by omega) (by omega) dL_law_348 ?_
    rw [← hz3e]
    refine g_callVP F (As := [iv z1, iv z2, iv z3]) (rest := []) (wr := wfl [wS cA se tbf (bSp X) (bSg X), wB cA bt (bBs X).1 (bBs X).2.1 (bBs X).2.2.1 (bBs X).2.2.2, wQ cA qr (tq 0) ql qc, wTS cA tq n1 S, wH cA hd pl pr pu qu, wMO cA md ((nc : Nat) : Int) ((nr : Nat) : Int) ke so bu bc pu qu fs cd un hb pf ef, wMP cA md kd lo hi co pa rk nu ct sa, wME cA md fr cs cn ck ch tb cr, wMX cA md fx fv sn, wMB cA md be tr wy, wMH cA md pl pr, poolE cA ad (bTb X) (fun _ => false) k]) (kX6_share l D cA x (bt 0) (se 0) (qr 0) (hd 0) so pg kd lo hi co pa rk nu ct sa nc nr z1 z2 z3 (by first | assumption | omega) (by first | assumption | omega) (by first | assumption | omega) (by first | assumption | omega) (by first | assumption | omega) (by first | assumption | omega)) (cwV 3 F.2.2.2.2.1 gL_law_X6_share rfl rfl rfl (by decide +kernel) ⟨(Nat.le_of_ble_eq_true rfl), (Nat.le_of_ble_eq_true rfl)⟩) rfl rfl (q0 := 0) rfl (wf_split (n := 14) (C := [wC cA x (pg 0) (bt 0) (se 0) (qr 0) (hd 0) so, wP cA pg kd lo hi co pa rk nu ct sa ((nc : Nat) : Int) ((nr : Nat) : Int)]) (R := [wS cA se tbf (bSp X) (bSg X), wB cA bt (bBs X).1 (bBs X).2.1 (bBs X).2.2.1 (bBs X).2.2.2, wQ cA qr (tq 0) ql qc, wTS cA tq n1 S, wH cA hd pl pr pu qu, wMO cA md ((nc : Nat) : Int) ((nr : Nat) : Int) ke so bu bc pu qu fs cd un hb pf ef, wMP cA md kd lo hi co pa rk nu ct sa, wME cA md fr cs cn ck ch tb cr, wMX cA md fx fv sn, wMB cA md be tr wy, wMH cA md pl pr, poolE cA ad (bTb X) (fun _ => false) k]) [0, 2, 1, 3, 4, 5, 6, 7, 8, 9, 10, 11, 12, 13] rfl (by decide) rfl) rfl rfl (Nat.le_of_ble_eq_true rfl) ⟨by show kc + 0 ≤ 600000; omega, by show ks + 0 ≤ 7302250; omega⟩ hA dL_law_349 (fun v w hv => ?_)
    obtain ⟨hv, hw⟩ := hv
    rw [if_pos hc] at hv
    rw [if_pos hc] at hw
    subst hv
    subst hw
    refine g_perm (wfl [wC cA x (pg 0) (bt 0) (se 0) (qr 0) (hd 0) so, wS cA se tbf (bSp X) (bSg X), wP cA pg kd lo hi co pa rk nu ct (va_up sa (z1.toNat * 5 + z2.toNat) z3) ((nc : Nat) : Int) ((nr : Nat) : Int), wB cA bt (bBs X).1 (bBs X).2.1 (bBs X).2.2.1 (bBs X).2.2.2, wQ cA qr (tq 0) ql qc, wTS cA tq n1 S, wH cA hd pl pr pu qu, wMO cA md ((nc : Nat) : Int) ((nr : Nat) : Int) ke so bu bc pu qu fs cd un hb pf ef, wMP cA md kd lo hi co pa rk nu ct sa, wME cA md fr cs cn ck ch tb cr, wMX cA md fx fv sn, wMB cA md be tr wy, wMH cA md pl pr, poolE cA ad (bTb X) (fun _ => false) k]) (wf_split (n := 14) (C := [wS cA se tbf (bSp X) (bSg X), wB cA bt (bBs X).1 (bBs X).2.1 (bBs X).2.2.1 (bBs X).2.2.2, wQ cA qr (tq 0) ql qc, wTS cA tq n1 S, wH cA hd pl pr pu qu, wMO cA md ((nc : Nat) : Int) ((nr : Nat) : Int) ke so bu bc pu qu fs cd un hb pf ef, wMP cA md kd lo hi co pa rk nu ct sa, wME cA md fr cs cn ck ch tb cr, wMX cA md fx fv sn, wMB cA md be tr wy, wMH cA md pl pr, poolE cA ad (bTb X) (fun _ => false) k]) (R := [wC cA x (pg 0) (bt 0) (se 0) (qr 0) (hd 0) so, wP cA pg kd lo hi co pa rk nu ct (va_up sa (z1.toNat * 5 + z2.toNat) z3) ((nc : Nat) : Int) ((nr : Nat) : Int)]) [1, 3, 4, 5, 6, 7, 8, 9, 10, 11, 12, 13, 0, 2] rfl (by decide) rfl).symm ?_
    refine g_eq (st' := [iv (sa (z1.toNat * 5 + z2.toNat))]) rfl rfl rfl ?_
    refine g_aload_n F 2 rfl rfl dL_law_352 ?_
    refine g_aload_n F 0 rfl rfl dL_law_353 ?_
    refine g_iload_n F 3 rfl rfl dL_law_354 ?_
    refine g_iconst F dL_law_355 ?_
    refine g_iadd F dL_law_356 ?_
    refine g_sld F hX hbl hbA (i + 1) (by omega) (by omega) (by omega) dL_law_357 ?_
    rw [← hz1e]
    refine g_aload_n F 0 rfl rfl dL_law_358 ?_
    refine g_iload_n F 3 rfl rfl dL_law_359 ?_
    refine g_iconst F dL_law_360 ?_
    refine g_iadd F dL_law_361 ?_
    refine g_sld F hX hbl hbA (i + 2) (by omega) (by omega) (by omega) dL_law_362 ?_
    rw [← hz2e]
    refine g_aload_n F 0 rfl rfl dL_law_363 ?_
    refine g_iload_n F 3 rfl rfl dL_law_364 ?_
    refine g_iconst F dL_law_365 ?_
    refine g_iadd F dL_law_366 ?_
    refine g_sld F hX hbl hbA (i + 3) (by omega) (by omega) (by omega) dL_law_367 ?_
    rw [← hz3e]
    refine g_callVP F (As := [iv z1, iv z2, iv z3]) (rest := [iv (sa (z1.toNat * 5 + z2.toNat))]) (wr := wfl [wC cA x (pg 0) (bt 0) (se 0) (qr 0) (hd 0) so, wS cA se tbf (bSp X) (bSg X), wP cA pg kd lo hi co pa rk nu ct (va_up sa (z1.toNat * 5 + z2.toNat) z3) ((nc : Nat) : Int) ((nr : Nat) : Int), wB cA bt (bBs X).1 (bBs X).2.1 (bBs X).2.2.1 (bBs X).2.2.2, wQ cA qr (tq 0) ql qc, wTS cA tq n1 S, wH cA hd pl pr pu qu, wME cA md fr cs cn ck ch tb cr, wMX cA md fx fv sn, wMB cA md be tr wy, wMH cA md pl pr, poolE cA ad (bTb X) (fun _ => false) k]) (kX7_share l D cA md nc nr ke so bu bc pu qu fs cd un hb pf ef kd lo hi co pa rk nu ct sa z1 z2 z3 (by first | assumption | omega) (by first | assumption | omega) (by first | assumption | omega) (by first | assumption | omega) (by first | assumption | omega) (by first | assumption | omega)) (cwV 3 F.2.2.2.2.1 gL_law_X7_share rfl rfl rfl (by decide +kernel) ⟨(Nat.le_of_ble_eq_true rfl), (Nat.le_of_ble_eq_true rfl)⟩) rfl rfl (q0 := 0) rfl (wf_split (n := 14) (C := [wMO cA md ((nc : Nat) : Int) ((nr : Nat) : Int) ke so bu bc pu qu fs cd un hb pf ef, wMP cA md kd lo hi co pa rk nu ct sa]) (R := [wC cA x (pg 0) (bt 0) (se 0) (qr 0) (hd 0) so, wS cA se tbf (bSp X) (bSg X), wP cA pg kd lo hi co pa rk nu ct (va_up sa (z1.toNat * 5 + z2.toNat) z3) ((nc : Nat) : Int) ((nr : Nat) : Int), wB cA bt (bBs X).1 (bBs X).2.1 (bBs X).2.2.1 (bBs X).2.2.2, wQ cA qr (tq 0) ql qc, wTS cA tq n1 S, wH cA hd pl pr pu qu, wME cA md fr cs cn ck ch tb cr, wMX cA md fx fv sn, wMB cA md be tr wy, wMH cA md pl pr, poolE cA ad (bTb X) (fun _ => false) k]) [7, 8, 0, 1, 2, 3, 4, 5, 6, 9, 10, 11, 12, 13] rfl (by decide) rfl) rfl rfl (Nat.le_of_ble_eq_true rfl) ⟨by show kc + 0 ≤ 600000; omega, by show ks + 0 ≤ 7302250; omega⟩ hA dL_law_368 (fun v w hv => ?_)
    obtain ⟨hv, hw⟩ := hv
    rw [if_pos hc] at hv
    rw [if_pos hc] at hw
    subst hv
    subst hw
    refine g_perm (wfl [wC cA x (pg 0) (bt 0) (se 0) (qr 0) (hd 0) so, wS cA se tbf (bSp X) (bSg X), wP cA pg kd lo hi co pa rk nu ct (va_up sa (z1.toNat * 5 + z2.toNat) z3) ((nc : Nat) : Int) ((nr : Nat) : Int), wB cA bt (bBs X).1 (bBs X).2.1 (bBs X).2.2.1 (bBs X).2.2.2, wQ cA qr (tq 0) ql qc, wTS cA tq n1 S, wH cA hd pl pr pu qu, wMO cA md ((nc : Nat) : Int) ((nr : Nat) : Int) ke so bu bc pu qu fs cd un hb pf ef, wMP cA md kd lo hi co pa rk nu ct (va_up sa (z1.toNat * 5 + z2.toNat) z3), wME cA md fr cs cn ck ch tb cr, wMX cA md fx fv sn, wMB cA md be tr wy, wMH cA md pl pr, poolE cA ad (bTb X) (fun _ => false) k]) (wf_split (n := 14) (C := [wC cA x (pg 0) (bt 0) (se 0) (qr 0) (hd 0) so, wS cA se tbf (bSp X) (bSg X), wP cA pg kd lo hi co pa rk nu ct (va_up sa (z1.toNat * 5 + z2.toNat) z3) ((nc : Nat) : Int) ((nr : Nat) : Int), wB cA bt (bBs X).1 (bBs X).2.1 (bBs X).2.2.1 (bBs X).2.2.2, wQ cA qr (tq 0) ql qc, wTS cA tq n1 S, wH cA hd pl pr pu qu, wME cA md fr cs cn ck ch tb cr, wMX cA md fx fv sn, wMB cA md be tr wy, wMH cA md pl pr, poolE cA ad (bTb X) (fun _ => false) k]) (R := [wMO cA md ((nc : Nat) : Int) ((nr : Nat) : Int) ke so bu bc pu qu fs cd un hb pf ef, wMP cA md kd lo hi co pa rk nu ct (va_up sa (z1.toNat * 5 + z2.toNat) z3)]) [0, 1, 2, 3, 4, 5, 6, 9, 10, 11, 12, 13, 7, 8] rfl (by decide) rfl).symm ?_
    refine g_eq (st' := [iv (sa (z1.toNat * 5 + z2.toNat)), iv (sa (z1.toNat * 5 + z2.toNat))]) rfl rfl rfl ?_
    refine g_ieq F (tgt := 887) (rfl) dL_law_371 (by decide) ?_
    refine g_widen (kc + 364) (ks + 8112) (by omega) (by omega) ?_
    exact hk kd lo hi co pa rk nu ct (va_up sa (z1.toNat * 5 + z2.toNat) z3) nc nr so X k ad tbf ql qc n1 S pl pr pu qu ke bu bc fs cd un hb pf ef fr cs cn ck ch tb cr fx fv sn be tr wy (⟨pr_share hpr0 (by omega) (by omega) (by omega), hI.2⟩)
  · skip
    refine g_aload_n F 1 rfl rfl dL_law_333 ?_
    refine g_aload_n F 0 rfl rfl dL_law_334 ?_
    refine g_iload_n F 3 rfl rfl dL_law_335 ?_
    refine g_iconst F dL_law_336 ?_
    refine g_iadd F dL_law_337 ?_
    refine g_sld F hX hbl hbA (i + 1) (by omega) (by omega) (by omega) dL_law_338 ?_
    rw [← hz1e]
    refine g_aload_n F 0 rfl rfl dL_law_339 ?_
    refine g_iload_n F 3 rfl rfl dL_law_340 ?_
    refine g_iconst F dL_law_341 ?_
    refine g_iadd F dL_law_342 ?_
    refine g_sld F hX hbl hbA (i + 2) (by omega) (by omega) (by omega) dL_law_343 ?_
    rw [← hz2e]
    refine g_aload_n F 0 rfl rfl dL_law_344 ?_
    refine g_iload_n F 3 rfl rfl dL_law_345 ?_
    refine g_iconst F dL_law_346 ?_
    refine g_iadd F dL_law_347 ?_
    refine g_sld F hX hbl hbA (i + 3) (by omega) (by omega) (by omega) dL_law_348 ?_
    rw [← hz3e]
    refine g_callVP F (As := [iv z1, iv z2, iv z3]) (rest := []) (wr := wfl [wS cA se tbf (bSp X) (bSg X), wB cA bt (bBs X).1 (bBs X).2.1 (bBs X).2.2.1 (bBs X).2.2.2, wQ cA qr (tq 0) ql qc, wTS cA tq n1 S, wH cA hd pl pr pu qu, wMO cA md ((nc : Nat) : Int) ((nr : Nat) : Int) ke so bu bc pu qu fs cd un hb pf ef, wMP cA md kd lo hi co pa rk nu ct sa, wME cA md fr cs cn ck ch tb cr, wMX cA md fx fv sn, wMB cA md be tr wy, wMH cA md pl pr, poolE cA ad (bTb X) (fun _ => false) k]) (kX6_share l D cA x (bt 0) (se 0) (qr 0) (hd 0) so pg kd lo hi co pa rk nu ct sa nc nr z1 z2 z3 (by first | assumption | omega) (by first | assumption | omega) (by first | assumption | omega) (by first | assumption | omega) (by first | assumption | omega) (by first | assumption | omega)) (cwV 3 F.2.2.2.2.1 gL_law_X6_share rfl rfl rfl (by decide +kernel) ⟨(Nat.le_of_ble_eq_true rfl), (Nat.le_of_ble_eq_true rfl)⟩) rfl rfl (q0 := 0) rfl (wf_split (n := 14) (C := [wC cA x (pg 0) (bt 0) (se 0) (qr 0) (hd 0) so, wP cA pg kd lo hi co pa rk nu ct sa ((nc : Nat) : Int) ((nr : Nat) : Int)]) (R := [wS cA se tbf (bSp X) (bSg X), wB cA bt (bBs X).1 (bBs X).2.1 (bBs X).2.2.1 (bBs X).2.2.2, wQ cA qr (tq 0) ql qc, wTS cA tq n1 S, wH cA hd pl pr pu qu, wMO cA md ((nc : Nat) : Int) ((nr : Nat) : Int) ke so bu bc pu qu fs cd un hb pf ef, wMP cA md kd lo hi co pa rk nu ct sa, wME cA md fr cs cn ck ch tb cr, wMX cA md fx fv sn, wMB cA md be tr wy, wMH cA md pl pr, poolE cA ad (bTb X) (fun _ => false) k]) [0, 2, 1, 3, 4, 5, 6, 7, 8, 9, 10, 11, 12, 13] rfl (by decide) rfl) rfl rfl (Nat.le_of_ble_eq_true rfl) ⟨by show kc + 0 ≤ 600000; omega, by show ks + 0 ≤ 7302250; omega⟩ hA dL_law_349 (fun v w hv => ?_)
    obtain ⟨hv, hw⟩ := hv
    rw [if_neg hc] at hv
    rw [if_neg hc] at hw
    subst hv
    subst hw
    refine g_perm (wfl [wC cA x (pg 0) (bt 0) (se 0) (qr 0) (hd 0) so, wS cA se tbf (bSp X) (bSg X), wP cA pg kd lo hi co pa rk nu ct sa ((nc : Nat) : Int) ((nr : Nat) : Int), wB cA bt (bBs X).1 (bBs X).2.1 (bBs X).2.2.1 (bBs X).2.2.2, wQ cA qr (tq 0) ql qc, wTS cA tq n1 S, wH cA hd pl pr pu qu, wMO cA md ((nc : Nat) : Int) ((nr : Nat) : Int) ke so bu bc pu qu fs cd un hb pf ef, wMP cA md kd lo hi co pa rk nu ct sa, wME cA md fr cs cn ck ch tb cr, wMX cA md fx fv sn, wMB cA md be tr wy, wMH cA md pl pr, poolE cA ad (bTb X) (fun _ => false) k]) (wf_split (n := 14) (C := [wS cA se tbf (bSp X) (bSg X), wB cA bt (bBs X).1 (bBs X).2.1 (bBs X).2.2.1 (bBs X).2.2.2, wQ cA qr (tq 0) ql qc, wTS cA tq n1 S, wH cA hd pl pr pu qu, wMO cA md ((nc : Nat) : Int) ((nr : Nat) : Int) ke so bu bc pu qu fs cd un hb pf ef, wMP cA md kd lo hi co pa rk nu ct sa, wME cA md fr cs cn ck ch tb cr, wMX cA md fx fv sn, wMB cA md be tr wy, wMH cA md pl pr, poolE cA ad (bTb X) (fun _ => false) k]) (R := [wC cA x (pg 0) (bt 0) (se 0) (qr 0) (hd 0) so, wP cA pg kd lo hi co pa rk nu ct sa ((nc : Nat) : Int) ((nr : Nat) : Int)]) [1, 3, 4, 5, 6, 7, 8, 9, 10, 11, 12, 13, 0, 2] rfl (by decide) rfl).symm ?_
    refine g_eq (st' := [iv (-2000000001)]) rfl rfl rfl ?_
    refine g_aload_n F 2 rfl rfl dL_law_352 ?_
    refine g_aload_n F 0 rfl rfl dL_law_353 ?_
    refine g_iload_n F 3 rfl rfl dL_law_354 ?_
    refine g_iconst F dL_law_355 ?_
    refine g_iadd F dL_law_356 ?_
    refine g_sld F hX hbl hbA (i + 1) (by omega) (by omega) (by omega) dL_law_357 ?_
    rw [← hz1e]
    refine g_aload_n F 0 rfl rfl dL_law_358 ?_
    refine g_iload_n F 3 rfl rfl dL_law_359 ?_
    refine g_iconst F dL_law_360 ?_
    refine g_iadd F dL_law_361 ?_
    refine g_sld F hX hbl hbA (i + 2) (by omega) (by omega) (by omega) dL_law_362 ?_
    rw [← hz2e]
    refine g_aload_n F 0 rfl rfl dL_law_363 ?_
    refine g_iload_n F 3 rfl rfl dL_law_364 ?_
    refine g_iconst F dL_law_365 ?_
    refine g_iadd F dL_law_366 ?_
    refine g_sld F hX hbl hbA (i + 3) (by omega) (by omega) (by omega) dL_law_367 ?_
    rw [← hz3e]
    refine g_callVP F (As := [iv z1, iv z2, iv z3]) (rest := [iv (-2000000001)]) (wr := wfl [wC cA x (pg 0) (bt 0) (se 0) (qr 0) (hd 0) so, wS cA se tbf (bSp X) (bSg X), wP cA pg kd lo hi co pa rk nu ct sa ((nc : Nat) : Int) ((nr : Nat) : Int), wB cA bt (bBs X).1 (bBs X).2.1 (bBs X).2.2.1 (bBs X).2.2.2, wQ cA qr (tq 0) ql qc, wTS cA tq n1 S, wH cA hd pl pr pu qu, wME cA md fr cs cn ck ch tb cr, wMX cA md fx fv sn, wMB cA md be tr wy, wMH cA md pl pr, poolE cA ad (bTb X) (fun _ => false) k]) (kX7_share l D cA md nc nr ke so bu bc pu qu fs cd un hb pf ef kd lo hi co pa rk nu ct sa z1 z2 z3 (by first | assumption | omega) (by first | assumption | omega) (by first | assumption | omega) (by first | assumption | omega) (by first | assumption | omega) (by first | assumption | omega)) (cwV 3 F.2.2.2.2.1 gL_law_X7_share rfl rfl rfl (by decide +kernel) ⟨(Nat.le_of_ble_eq_true rfl), (Nat.le_of_ble_eq_true rfl)⟩) rfl rfl (q0 := 0) rfl (wf_split (n := 14) (C := [wMO cA md ((nc : Nat) : Int) ((nr : Nat) : Int) ke so bu bc pu qu fs cd un hb pf ef, wMP cA md kd lo hi co pa rk nu ct sa]) (R := [wC cA x (pg 0) (bt 0) (se 0) (qr 0) (hd 0) so, wS cA se tbf (bSp X) (bSg X), wP cA pg kd lo hi co pa rk nu ct sa ((nc : Nat) : Int) ((nr : Nat) : Int), wB cA bt (bBs X).1 (bBs X).2.1 (bBs X).2.2.1 (bBs X).2.2.2, wQ cA qr (tq 0) ql qc, wTS cA tq n1 S, wH cA hd pl pr pu qu, wME cA md fr cs cn ck ch tb cr, wMX cA md fx fv sn, wMB cA md be tr wy, wMH cA md pl pr, poolE cA ad (bTb X) (fun _ => false) k]) [7, 8, 0, 1, 2, 3, 4, 5, 6, 9, 10, 11, 12, 13] rfl (by decide) rfl) rfl rfl (Nat.le_of_ble_eq_true rfl) ⟨by show kc + 0 ≤ 600000; omega, by show ks + 0 ≤ 7302250; omega⟩ hA dL_law_368 (fun v w hv => ?_)
    obtain ⟨hv, hw⟩ := hv
    rw [if_neg hc] at hv
    rw [if_neg hc] at hw
    subst hv
    subst hw
    refine g_perm (wfl [wC cA x (pg 0) (bt 0) (se 0) (qr 0) (hd 0) so, wS cA se tbf (bSp X) (bSg X), wP cA pg kd lo hi co pa rk nu ct sa ((nc : Nat) : Int) ((nr : Nat) : Int), wB cA bt (bBs X).1 (bBs X).2.1 (bBs X).2.2.1 (bBs X).2.2.2, wQ cA qr (tq 0) ql qc, wTS cA tq n1 S, wH cA hd pl pr pu qu, wMO cA md ((nc : Nat) : Int) ((nr : Nat) : Int) ke so bu bc pu qu fs cd un hb pf ef, wMP cA md kd lo hi co pa rk nu ct sa, wME cA md fr cs cn ck ch tb cr, wMX cA md fx fv sn, wMB cA md be tr wy, wMH cA md pl pr, poolE cA ad (bTb X) (fun _ => false) k]) (wf_split (n := 14) (C := [wC cA x (pg 0) (bt 0) (se 0) (qr 0) (hd 0) so, wS cA se tbf (bSp X) (bSg X), wP cA pg kd lo hi co pa rk nu ct sa ((nc : Nat) : Int) ((nr : Nat) : Int), wB cA bt (bBs X).1 (bBs X).2.1 (bBs X).2.2.1 (bBs X).2.2.2, wQ cA qr (tq 0) ql qc, wTS cA tq n1 S, wH cA hd pl pr pu qu, wME cA md fr cs cn ck ch tb cr, wMX cA md fx fv sn, wMB cA md be tr wy, wMH cA md pl pr, poolE cA ad (bTb X) (fun _ => false) k]) (R := [wMO cA md ((nc : Nat) : Int) ((nr : Nat) : Int) ke so bu bc pu qu fs cd un hb pf ef, wMP cA md kd lo hi co pa rk nu ct sa]) [0, 1, 2, 3, 4, 5, 6, 9, 10, 11, 12, 13, 7, 8] rfl (by decide) rfl).symm ?_
    refine g_eq (st' := [iv (-2000000001), iv (-2000000001)]) rfl rfl rfl ?_
    refine g_ieq F (tgt := 887) (rfl) dL_law_371 (by decide) ?_
    refine g_widen (kc + 364) (ks + 8112) (by omega) (by omega) ?_
    exact hk kd lo hi co pa rk nu ct sa nc nr so X k ad tbf ql qc n1 S pl pr pu qu ke bu bc fs cd un hb pf ef fr cs cn ck ch tb cr fx fv sn be tr wy (hI)

set_option maxHeartbeats 4000000 in
set_option maxRecDepth 100000 in
theorem lc_put {p : Program} {l : Launch} {e : Env} {s : State} {m : MethodId} {below : List Frame} {meth : Method} {c : Code} {Q : State → Prop} {D : va_G} {cA : Nat → ClassId} {A : Nat → Prop} {sb Ln : Nat} {xs : Nat → Int32} {x se pg bt qr tq hd md : Nat → Nat} (F : Fx p s m #[Value.ref sb] meth c cL_law 4 RL wsL_law ret D cA) (hA : ∀ q, s.heap.size ≤ q → A q) (hX : va_X sb Ln xs s s.heap) (hbl : sb < s.heap.size) (hbA : ¬ A sb) (hL : Ln ≤ 2048) (i : Nat) (hi : i + 4 ≤ Ln) (kc ks : Nat) (hkc : kc + 364 ≤ 600000 ∧ ks + 8112 ≤ 7302250) (hk : lwN p l e s m sb below meth c Q D cA A x se pg bt qr tq hd md i (kc + 364) (ks + 8112) 887) : lwN p l e s m sb below meth c Q D cA A x se pg bt qr tq hd md i kc ks 678 := by
  intro kd lo hi co pa rk nu ct sa nc nr so X k ad tbf ql qc n1 S pl pr pu qu ke bu bc fs cd un hb pf ef fr cs cn ck ch tb cr fx fv sn be tr wy hI
  obtain ⟨hpr0, ⟨hS, hbd, hbo, hk51, ht1, ht2, h00⟩, ⟨hSq, hzq⟩, ⟨hpl, hpb, hpr, hqb⟩, ⟨hbm, hke⟩, hrel⟩ := id hI
  obtain ⟨hP, hR, hco, hpa5, hpaN, hle, zs, zc⟩ := id hpr0
  have qnc := hP.1
  have qkd := hP.2.1
  have qlo := hP.2.2.1
  have qhi : ∀ j, hi j = -2000000005 ∨ (-20 ≤ hi j ∧ hi j ≤ 20) := hP.2.2.2.1
  have qnr := hR.1
  have qrk := hR.2.1
  have qnu := hR.2.2.1
  have qnu2 : ∀ j, -198 ≤ nu j ∧ nu j ≤ 198 := fun j => by have := qnu j; omega
  have qsa := hR.2.2.2.1
  have qct := hR.2.2.2.2
  have hbb := hbd.1
  have hbc9 := hbd.2.1
  have hbv := hbd.2.2
  have hbu9 : 0 < bu ∧ bu ≤ 8000000 := hbm.1
  have hbcm : -200000000000 ≤ bc ∧ bc ≤ 200000000000 := hbm.2.1
  have hbem : ∀ j, -200000000000 ≤ be j ∧ be j ≤ 200000000000 := hbm.2.2
  have hpb1 : 1 ≤ pu ∧ pu ≤ 2000000000 := by omega
  have hV := @IM_P D s A
  have hz1 : -2147483648 ≤ (xs (i + 1)).toInt ∧ (xs (i + 1)).toInt ≤ 2147483647 := i32_rng _
  have hz2 : -2147483648 ≤ (xs (i + 2)).toInt ∧ (xs (i + 2)).toInt ≤ 2147483647 := i32_rng _
  have hz3 : -2147483648 ≤ (xs (i + 3)).toInt ∧ (xs (i + 3)).toInt ≤ 2147483647 := i32_rng _
  obtain ⟨z1, hz1e⟩ : ∃ z, z = (xs (i + 1)).toInt := ⟨_, rfl⟩
  obtain ⟨z2, hz2e⟩ : ∃ z, z = (xs (i + 2)).toInt := ⟨_, rfl⟩
  obtain ⟨z3, hz3e⟩ : ∃ z, z = (xs (i + 3)).toInt := ⟨_, rfl⟩
  rw [← hz1e] at hz1
  rw [← hz2e] at hz2
  rw [← hz3e] at hz3
  by_cases hc : (0 ≤ z1 ∧ z1 < 5) ∧ -1000000000 ≤ z2 ∧ z2 ≤ 1000000000
  · skip
    refine g_aload_n F 1 rfl rfl dL_law_678 ?_
    refine g_aload_n F 0 rfl rfl dL_law_679 ?_
    refine g_iload_n F 3 rfl rfl dL_law_680 ?_
    refine g_iconst F dL_law_681 ?_
    refine g_iadd F dL_law_682 ?_
    refine g_sld F hX hbl hbA (i + 1) (by omega) (by omega) (by omega) dL_law_683 ?_
    rw [← hz1e]
    refine g_aload_n F 0 rfl rfl dL_law_684 ?_
    refine g_iload_n F 3 rfl rfl dL_law_685 ?_
    refine g_iconst F dL_law_686 ?_
    refine g_iadd F dL_law_687 ?_
    refine g_sld F hX hbl hbA (i + 2) (by omega) (by omega) (by omega) dL_law_688 ?_
    rw [← hz2e]
    refine g_callVP F (As := [iv z1, iv z2]) (rest := []) (wr := wfl [wS cA se tbf (bSp X) (bSg X), wP cA pg kd lo hi co pa rk nu ct sa ((nc : Nat) : Int) ((nr : Nat) : Int), wB cA bt (bBs X).1 (bBs X).2.1 (bBs X).2.2.1 (bBs X).2.2.2, wQ cA qr (tq 0) ql qc, wTS cA tq n1 S, wMO cA md ((nc : Nat) : Int) ((nr : Nat) : Int) ke so bu bc pu qu fs cd un hb pf ef, wMP cA md kd lo hi co pa rk nu ct sa, wME cA md fr cs cn ck ch tb cr, wMX cA md fx fv sn, wMB cA md be tr wy, wMH cA md pl pr, poolE cA ad (bTb X) (fun _ => false) k]) (kX6_put l D cA x (pg 0) (bt 0) (se 0) (qr 0) so hd pl pr pu qu z1 z2 (by first | assumption | omega) (by first | assumption | omega)) (cwV 2 F.2.2.2.2.1 gL_law_X6_put rfl rfl rfl (by decide +kernel) ⟨(Nat.le_of_ble_eq_true rfl), (Nat.le_of_ble_eq_true rfl)⟩) rfl rfl (q0 := 0) rfl (wf_split (n := 14) (C := [wC cA x (pg 0) (bt 0) (se 0) (qr 0) (hd 0) so, wH cA hd pl pr pu qu]) (R := [wS cA se tbf (bSp X) (bSg X), wP cA pg kd lo hi co pa rk nu ct sa ((nc : Nat) : Int) ((nr : Nat) : Int), wB cA bt (bBs X).1 (bBs X).2.1 (bBs X).2.2.1 (bBs X).2.2.2, wQ cA qr (tq 0) ql qc, wTS cA tq n1 S, wMO cA md ((nc : Nat) : Int) ((nr : Nat) : Int) ke so bu bc pu qu fs cd un hb pf ef, wMP cA md kd lo hi co pa rk nu ct sa, wME cA md fr cs cn ck ch tb cr, wMX cA md fx fv sn, wMB cA md be tr wy, wMH cA md pl pr, poolE cA ad (bTb X) (fun _ => false) k]) [0, 6, 1, 2, 3, 4, 5, 7, 8, 9, 10, 11, 12, 13] rfl (by decide) rfl) rfl rfl (Nat.le_of_ble_eq_true rfl) ⟨by show kc + 0 ≤ 600000; omega, by show ks + 0 ≤ 7302250; omega⟩ hA dL_law_689 (fun v w hv => ?_)
    obtain ⟨hv, hw⟩ := hv
    rw [if_pos hc] at hv
    rw [if_pos hc] at hw
    subst hv
    subst hw
    refine g_perm (wfl [wC cA x (pg 0) (bt 0) (se 0) (qr 0) (hd 0) so, wS cA se tbf (bSp X) (bSg X), wP cA pg kd lo hi co pa rk nu ct sa ((nc : Nat) : Int) ((nr : Nat) : Int), wB cA bt (bBs X).1 (bBs X).2.1 (bBs X).2.2.1 (bBs X).2.2.2, wQ cA qr (tq 0) ql qc, wTS cA tq n1 S, wH cA hd (va_up pl z1.toNat z2) pr pu qu, wMO cA md ((nc : Nat) : Int) ((nr : Nat) : Int) ke so bu bc pu qu fs cd un hb pf ef, wMP cA md kd lo hi co pa rk nu ct sa, wME cA md fr cs cn ck ch tb cr, wMX cA md fx fv sn, wMB cA md be tr wy, wMH cA md pl pr, poolE cA ad (bTb X) (fun _ => false) k]) (wf_split (n := 14) (C := [wS cA se tbf (bSp X) (bSg X), wP cA pg kd lo hi co pa rk nu ct sa ((nc : Nat) : Int) ((nr : Nat) : Int), wB cA bt (bBs X).1 (bBs X).2.1 (bBs X).2.2.1 (bBs X).2.2.2, wQ cA qr (tq 0) ql qc, wTS cA tq n1 S, wMO cA md ((nc : Nat) : Int) ((nr : Nat) : Int) ke so bu bc pu qu fs cd un hb pf ef, wMP cA md kd lo hi co pa rk nu ct sa, wME cA md fr cs cn ck ch tb cr, wMX cA md fx fv sn, wMB cA md be tr wy, wMH cA md pl pr, poolE cA ad (bTb X) (fun _ => false) k]) (R := [wC cA x (pg 0) (bt 0) (se 0) (qr 0) (hd 0) so, wH cA hd (va_up pl z1.toNat z2) pr pu qu]) [1, 2, 3, 4, 5, 7, 8, 9, 10, 11, 12, 13, 0, 6] rfl (by decide) rfl).symm ?_
    refine g_eq (st' := [iv (0)]) rfl rfl rfl ?_
    refine g_aload_n F 2 rfl rfl dL_law_692 ?_
    refine g_aload_n F 0 rfl rfl dL_law_693 ?_
    refine g_iload_n F 3 rfl rfl dL_law_694 ?_
    refine g_iconst F dL_law_695 ?_
    refine g_iadd F dL_law_696 ?_
    refine g_sld F hX hbl hbA (i + 1) (by omega) (by omega) (by omega) dL_law_697 ?_
    rw [← hz1e]
    refine g_aload_n F 0 rfl rfl dL_law_698 ?_
    refine g_iload_n F 3 rfl rfl dL_law_699 ?_
    refine g_iconst F dL_law_700 ?_
    refine g_iadd F dL_law_701 ?_
    refine g_sld F hX hbl hbA (i + 2) (by omega) (by omega) (by omega) dL_law_702 ?_
    rw [← hz2e]
    refine g_callVP F (As := [iv z1, iv z2]) (rest := [iv (0)]) (wr := wfl [wC cA x (pg 0) (bt 0) (se 0) (qr 0) (hd 0) so, wS cA se tbf (bSp X) (bSg X), wP cA pg kd lo hi co pa rk nu ct sa ((nc : Nat) : Int) ((nr : Nat) : Int), wB cA bt (bBs X).1 (bBs X).2.1 (bBs X).2.2.1 (bBs X).2.2.2, wQ cA qr (tq 0) ql qc, wTS cA tq n1 S, wH cA hd (va_up pl z1.toNat z2) pr pu qu, wMP cA md kd lo hi co pa rk nu ct sa, wME cA md fr cs cn ck ch tb cr, wMX cA md fx fv sn, wMB cA md be tr wy, poolE cA ad (bTb X) (fun _ => false) k]) (kX7_put l D cA md nc nr ke so bu bc pu qu fs cd un hb pf ef pl pr z1 z2 (by first | assumption | omega) (by first | assumption | omega)) (cwV 2 F.2.2.2.2.1 gL_law_X7_put rfl rfl rfl (by decide +kernel) ⟨(Nat.le_of_ble_eq_true rfl), (Nat.le_of_ble_eq_true rfl)⟩) rfl rfl (q0 := 0) rfl (wf_split (n := 14) (C := [wMO cA md ((nc : Nat) : Int) ((nr : Nat) : Int) ke so bu bc pu qu fs cd un hb pf ef, wMH cA md pl pr]) (R := [wC cA x (pg 0) (bt 0) (se 0) (qr 0) (hd 0) so, wS cA se tbf (bSp X) (bSg X), wP cA pg kd lo hi co pa rk nu ct sa ((nc : Nat) : Int) ((nr : Nat) : Int), wB cA bt (bBs X).1 (bBs X).2.1 (bBs X).2.2.1 (bBs X).2.2.2, wQ cA qr (tq 0) ql qc, wTS cA tq n1 S, wH cA hd (va_up pl z1.toNat z2) pr pu qu, wMP cA md kd lo hi co pa rk nu ct sa, wME cA md fr cs cn ck ch tb cr, wMX cA md fx fv sn, wMB cA md be tr wy, poolE cA ad (bTb X) (fun _ => false) k]) [7, 12, 0, 1, 2, 3, 4, 5, 6, 8, 9, 10, 11, 13] rfl (by decide) rfl) rfl rfl (Nat.le_of_ble_eq_true rfl) ⟨by show kc + 0 ≤ 600000; omega, by show ks + 0 ≤ 7302250; omega⟩ hA dL_law_703 (fun v w hv => ?_)
    obtain ⟨hv, hw⟩ := hv
    rw [if_pos hc] at hv
    rw [if_pos hc] at hw
    subst hv
    subst hw
    refine g_perm (wfl [wC cA x (pg 0) (bt 0) (se 0) (qr 0) (hd 0) so, wS cA se tbf (bSp X) (bSg X), wP cA pg kd lo hi co pa rk nu ct sa ((nc : Nat) : Int) ((nr : Nat) : Int), wB cA bt (bBs X).1 (bBs X).2.1 (bBs X).2.2.1 (bBs X).2.2.2, wQ cA qr (tq 0) ql qc, wTS cA tq n1 S, wH cA hd (va_up pl z1.toNat z2) pr pu qu, wMO cA md ((nc : Nat) : Int) ((nr : Nat) : Int) ke so bu bc pu qu fs cd un hb pf ef, wMP cA md kd lo hi co pa rk nu ct sa, wME cA md fr cs cn ck ch tb cr, wMX cA md fx fv sn, wMB cA md be tr wy, wMH cA md (va_up pl z1.toNat z2) pr, poolE cA ad (bTb X) (fun _ => false) k]) (wf_split (n := 14) (C := [wC cA x (pg 0) (bt 0) (se 0) (qr 0) (hd 0) so, wS cA se tbf (bSp X) (bSg X), wP cA pg kd lo hi co pa rk nu ct sa ((nc : Nat) : Int) ((nr : Nat) : Int), wB cA bt (bBs X).1 (bBs X).2.1 (bBs X).2.2.1 (bBs X).2.2.2, wQ cA qr (tq 0) ql qc, wTS cA tq n1 S, wH cA hd (va_up pl z1.toNat z2) pr pu qu, wMP cA md kd lo hi co pa rk nu ct sa, wME cA md fr cs cn ck ch tb cr, wMX cA md fx fv sn, wMB cA md be tr wy, poolE cA ad (bTb X) (fun _ => false) k]) (R := [wMO cA md ((nc : Nat) : Int) ((nr : Nat) : Int) ke so bu bc pu qu fs cd un hb pf ef, wMH cA md (va_up pl z1.toNat z2) pr]) [0, 1, 2, 3, 4, 5, 6, 8, 9, 10, 11, 13, 7, 12] rfl (by decide) rfl).symm ?_
    refine g_eq (st' := [iv (0), iv (0)]) rfl rfl rfl ?_
    refine g_ieq F (tgt := 887) (rfl) dL_law_706 (by decide) ?_
    refine g_widen (kc + 364) (ks + 8112) (by omega) (by omega) ?_
    exact hk kd lo hi co pa rk nu ct sa nc nr so X k ad tbf ql qc n1 S (va_up pl z1.toNat z2) pr pu qu ke bu bc fs cd un hb pf ef fr cs cn ck ch tb cr fx fv sn be tr wy (⟨hI.1, hI.2.1, hI.2.2.1, ⟨up_all (P := fun z => -200000000000 ≤ z ∧ z ≤ 200000000000) hpl (by omega), hpb, hpr, hqb⟩, hI.2.2.2.2⟩)
  · skip
    refine g_aload_n F 1 rfl rfl dL_law_678 ?_
    refine g_aload_n F 0 rfl rfl dL_law_679 ?_
    refine g_iload_n F 3 rfl rfl dL_law_680 ?_
    refine g_iconst F dL_law_681 ?_
    refine g_iadd F dL_law_682 ?_
    refine g_sld F hX hbl hbA (i + 1) (by omega) (by omega) (by omega) dL_law_683 ?_
    rw [← hz1e]
    refine g_aload_n F 0 rfl rfl dL_law_684 ?_
    refine g_iload_n F 3 rfl rfl dL_law_685 ?_
    refine g_iconst F dL_law_686 ?_
    refine g_iadd F dL_law_687 ?_
    refine g_sld F hX hbl hbA (i + 2) (by omega) (by omega) (by omega) dL_law_688 ?_
    rw [← hz2e]
    refine g_callVP F (As := [iv z1, iv z2]) (rest := []) (wr := wfl [wS cA se tbf (bSp X) (bSg X), wP cA pg kd lo hi co pa rk nu ct sa ((nc : Nat) : Int) ((nr : Nat) : Int), wB cA bt (bBs X).1 (bBs X).2.1 (bBs X).2.2.1 (bBs X).2.2.2, wQ cA qr (tq 0) ql qc, wTS cA tq n1 S, wMO cA md ((nc : Nat) : Int) ((nr : Nat) : Int) ke so bu bc pu qu fs cd un hb pf ef, wMP cA md kd lo hi co pa rk nu ct sa, wME cA md fr cs cn ck ch tb cr, wMX cA md fx fv sn, wMB cA md be tr wy, wMH cA md pl pr, poolE cA ad (bTb X) (fun _ => false) k]) (kX6_put l D cA x (pg 0) (bt 0) (se 0) (qr 0) so hd pl pr pu qu z1 z2 (by first | assumption | omega) (by first | assumption | omega)) (cwV 2 F.2.2.2.2.1 gL_law_X6_put rfl rfl rfl (by decide +kernel) ⟨(Nat.le_of_ble_eq_true rfl), (Nat.le_of_ble_eq_true rfl)⟩) rfl rfl (q0 := 0) rfl (wf_split (n := 14) (C := [wC cA x (pg 0) (bt 0) (se 0) (qr 0) (hd 0) so, wH cA hd pl pr pu qu]) (R := [wS cA se tbf (bSp X) (bSg X), wP cA pg kd lo hi co pa rk nu ct sa ((nc : Nat) : Int) ((nr : Nat) : Int), wB cA bt (bBs X).1 (bBs X).2.1 (bBs X).2.2.1 (bBs X).2.2.2, wQ cA qr (tq 0) ql qc, wTS cA tq n1 S, wMO cA md ((nc : Nat) : Int) ((nr : Nat) : Int) ke so bu bc pu qu fs cd un hb pf ef, wMP cA md kd lo hi co pa rk nu ct sa, wME cA md fr cs cn ck ch tb cr, wMX cA md fx fv sn, wMB cA md be tr wy, wMH cA md pl pr, poolE cA ad (bTb X) (fun _ => false) k]) [0, 6, 1, 2, 3, 4, 5, 7, 8, 9, 10, 11, 12, 13] rfl (by decide) rfl) rfl rfl (Nat.le_of_ble_eq_true rfl) ⟨by show kc + 0 ≤ 600000; omega, by show ks + 0 ≤ 7302250; omega⟩ hA dL_law_689 (fun v w hv => ?_)
    obtain ⟨hv, hw⟩ := hv
    rw [if_neg hc] at hv
    rw [if_neg hc] at hw
    subst hv
    subst hw
    refine g_perm (wfl [wC cA x (pg 0) (bt 0) (se 0) (qr 0) (hd 0) so, wS cA se tbf (bSp X) (bSg X), wP cA pg kd lo hi co pa rk nu ct sa ((nc : Nat) : Int) ((nr : Nat) : Int), wB cA bt (bBs X).1 (bBs X).2.1 (bBs X).2.2.1 (bBs X).2.2.2, wQ cA qr (tq 0) ql qc, wTS cA tq n1 S, wH cA hd pl pr pu qu, wMO cA md ((nc : Nat) : Int) ((nr : Nat) : Int) ke so bu bc pu qu fs cd un hb pf ef, wMP cA md kd lo hi co pa rk nu ct sa, wME cA md fr cs cn ck ch tb cr, wMX cA md fx fv sn, wMB cA md be tr wy, wMH cA md pl pr, poolE cA ad (bTb X) (fun _ => false) k]) (wf_split (n := 14) (C := [wS cA se tbf (bSp X) (bSg X), wP cA pg kd lo hi co pa rk nu ct sa ((nc : Nat) : Int) ((nr : Nat) : Int), wB cA bt (bBs X).1 (bBs X).2.1 (bBs X).2.2.1 (bBs X).2.2.2, wQ cA qr (tq 0) ql qc, wTS cA tq n1 S, wMO cA md ((nc : Nat) : Int) ((nr : Nat) : Int) ke so bu bc pu qu fs cd un hb pf ef, wMP cA md kd lo hi co pa rk nu ct sa, wME cA md fr cs cn ck ch tb cr, wMX cA md fx fv sn, wMB cA md be tr wy, wMH cA md pl pr, poolE cA ad (bTb X) (fun _ => false) k]) (R := [wC cA x (pg 0) (bt 0) (se 0) (qr 0) (hd 0) so, wH cA hd pl pr pu qu]) [1, 2, 3, 4, 5, 7, 8, 9, 10, 11, 12, 13, 0, 6] rfl (by decide) rfl).symm ?_
    refine g_eq (st' := [iv (-2000000001)]) rfl rfl rfl ?_
    refine g_aload_n F 2 rfl rfl dL_law_692 ?_
    refine g_aload_n F 0 rfl rfl dL_law_693 ?_
    refine g_iload_n F 3 rfl rfl dL_law_694 ?_
    refine g_iconst F dL_law_695 ?_
    refine g_iadd F dL_law_696 ?_
    refine g_sld F hX hbl hbA (i + 1) (by omega) (by omega) (by omega) dL_law_697 ?_
    rw [← hz1e]
    refine g_aload_n F 0 rfl rfl dL_law_698 ?_
    refine g_iload_n F 3 rfl rfl dL_law_699 ?_
    refine g_iconst F dL_law_700 ?_
    refine g_iadd F dL_law_701 ?_
    refine g_sld F hX hbl hbA (i + 2) (by omega) (by omega) (by omega) dL_law_702 ?_
    rw [← hz2e]
    refine g_callVP F (As := [iv z1, iv z2]) (rest := [iv (-2000000001)]) (wr := wfl [wC cA x (pg 0) (bt 0) (se 0) (qr 0) (hd 0) so, wS cA se tbf (bSp X) (bSg X), wP cA pg kd lo hi co pa rk nu ct sa ((nc : Nat) : Int) ((nr : Nat) : Int), wB cA bt (bBs X).1 (bBs X).2.1 (bBs X).2.2.1 (bBs X).2.2.2, wQ cA qr (tq 0) ql qc, wTS cA tq n1 S, wH cA hd pl pr pu qu, wMP cA md kd lo hi co pa rk nu ct sa, wME cA md fr cs cn ck ch tb cr, wMX cA md fx fv sn, wMB cA md be tr wy, poolE cA ad (bTb X) (fun _ => false) k]) (kX7_put l D cA md nc nr ke so bu bc pu qu fs cd un hb pf ef pl pr z1 z2 (by first | assumption | omega) (by first | assumption | omega)) (cwV 2 F.2.2.2.2.1 gL_law_X7_put rfl rfl rfl (by decide +kernel) ⟨(Nat.le_of_ble_eq_true rfl), (Nat.le_of_ble_eq_true rfl)⟩) rfl rfl (q0 := 0) rfl (wf_split (n := 14) (C := [wMO cA md ((nc : Nat) : Int) ((nr : Nat) : Int) ke so bu bc pu qu fs cd un hb pf ef, wMH cA md pl pr]) (R := [wC cA x (pg 0) (bt 0) (se 0) (qr 0) (hd 0) so, wS cA se tbf (bSp X) (bSg X), wP cA pg kd lo hi co pa rk nu ct sa ((nc : Nat) : Int) ((nr : Nat) : Int), wB cA bt (bBs X).1 (bBs X).2.1 (bBs X).2.2.1 (bBs X).2.2.2, wQ cA qr (tq 0) ql qc, wTS cA tq n1 S, wH cA hd pl pr pu qu, wMP cA md kd lo hi co pa rk nu ct sa, wME cA md fr cs cn ck ch tb cr, wMX cA md fx fv sn, wMB cA md be tr wy, poolE cA ad (bTb X) (fun _ => false) k]) [7, 12, 0, 1, 2, 3, 4, 5, 6, 8, 9, 10, 11, 13] rfl (by decide) rfl) rfl rfl (Nat.le_of_ble_eq_true rfl) ⟨by show kc + 0 ≤ 600000; omega, by show ks + 0 ≤ 7302250; omega⟩ hA dL_law_703 (fun v w hv => ?_)
    obtain ⟨hv, hw⟩ := hv
    rw [if_neg hc] at hv
    rw [if_neg hc] at hw
    subst hv
    subst hw
    refine g_perm (wfl [wC cA x (pg 0) (bt 0) (se 0) (qr 0) (hd 0) so, wS cA se tbf (bSp X) (bSg X), wP cA pg kd lo hi co pa rk nu ct sa ((nc : Nat) : Int) ((nr : Nat) : Int), wB cA bt (bBs X).1 (bBs X).2.1 (bBs X).2.2.1 (bBs X).2.2.2, wQ cA qr (tq 0) ql qc, wTS cA tq n1 S, wH cA hd pl pr pu qu, wMO cA md ((nc : Nat) : Int) ((nr : Nat) : Int) ke so bu bc pu qu fs cd un hb pf ef, wMP cA md kd lo hi co pa rk nu ct sa, wME cA md fr cs cn ck ch tb cr, wMX cA md fx fv sn, wMB cA md be tr wy, wMH cA md pl pr, poolE cA ad (bTb X) (fun _ => false) k]) (wf_split (n := 14) (C := [wC cA x (pg 0) (bt 0) (se 0) (qr 0) (hd 0) so, wS cA se tbf (bSp X) (bSg X), wP cA pg kd lo hi co pa rk nu ct sa ((nc : Nat) : Int) ((nr : Nat) : Int), wB cA bt (bBs X).1 (bBs X).2.1 (bBs X).2.2.1 (bBs X).2.2.2, wQ cA qr (tq 0) ql qc, wTS cA tq n1 S, wH cA hd pl pr pu qu, wMP cA md kd lo hi co pa rk nu ct sa, wME cA md fr cs cn ck ch tb cr, wMX cA md fx fv sn, wMB cA md be tr wy, poolE cA ad (bTb X) (fun _ => false) k]) (R := [wMO cA md ((nc : Nat) : Int) ((nr : Nat) : Int) ke so bu bc pu qu fs cd un hb pf ef, wMH cA md pl pr]) [0, 1, 2, 3, 4, 5, 6, 8, 9, 10, 11, 13, 7, 12] rfl (by decide) rfl).symm ?_
    refine g_eq (st' := [iv (-2000000001), iv (-2000000001)]) rfl rfl rfl ?_
    refine g_ieq F (tgt := 887) (rfl) dL_law_706 (by decide) ?_
    refine g_widen (kc + 364) (ks + 8112) (by omega) (by omega) ?_
    exact hk kd lo hi co pa rk nu ct sa nc nr so X k ad tbf ql qc n1 S pl pr pu qu ke bu bc fs cd un hb pf ef fr cs cn ck ch tb cr fx fv sn be tr wy (hI)

set_option maxHeartbeats 4000000 in
set_option maxRecDepth 100000 in
theorem lc_price {p : Program} {l : Launch} {e : Env} {s : State} {m : MethodId} {below : List Frame} {meth : Method} {c : Code} {Q : State → Prop} {D : va_G} {cA : Nat → ClassId} {A : Nat → Prop} {sb Ln : Nat} {xs : Nat → Int32} {x se pg bt qr tq hd md : Nat → Nat} (F : Fx p s m #[Value.ref sb] meth c cL_law 4 RL wsL_law ret D cA) (hA : ∀ q, s.heap.size ≤ q → A q) (hX : va_X sb Ln xs s s.heap) (hbl : sb < s.heap.size) (hbA : ¬ A sb) (hL : Ln ≤ 2048) (i : Nat) (hi : i + 4 ≤ Ln) (kc ks : Nat) (hkc : kc + 364 ≤ 600000 ∧ ks + 8112 ≤ 7302250) (hk : lwN p l e s m sb below meth c Q D cA A x se pg bt qr tq hd md i (kc + 364) (ks + 8112) 887) : lwN p l e s m sb below meth c Q D cA A x se pg bt qr tq hd md i kc ks 748 := by
  intro kd lo hi co pa rk nu ct sa nc nr so X k ad tbf ql qc n1 S pl pr pu qu ke bu bc fs cd un hb pf ef fr cs cn ck ch tb cr fx fv sn be tr wy hI
  obtain ⟨hpr0, ⟨hS, hbd, hbo, hk51, ht1, ht2, h00⟩, ⟨hSq, hzq⟩, ⟨hpl, hpb, hpr, hqb⟩, ⟨hbm, hke⟩, hrel⟩ := id hI
  obtain ⟨hP, hR, hco, hpa5, hpaN, hle, zs, zc⟩ := id hpr0
  have qnc := hP.1
  have qkd := hP.2.1
  have qlo := hP.2.2.1
  have qhi : ∀ j, hi j = -2000000005 ∨ (-20 ≤ hi j ∧ hi j ≤ 20) := hP.2.2.2.1
  have qnr := hR.1
  have qrk := hR.2.1
  have qnu := hR.2.2.1
  have qnu2 : ∀ j, -198 ≤ nu j ∧ nu j ≤ 198 := fun j => by have := qnu j; omega
  have qsa := hR.2.2.2.1
  have qct := hR.2.2.2.2
  have hbb := hbd.1
  have hbc9 := hbd.2.1
  have hbv := hbd.2.2
  have hbu9 : 0 < bu ∧ bu ≤ 8000000 := hbm.1
  have hbcm : -200000000000 ≤ bc ∧ bc ≤ 200000000000 := hbm.2.1
  have hbem : ∀ j, -200000000000 ≤ be j ∧ be j ≤ 200000000000 := hbm.2.2
  have hpb1 : 1 ≤ pu ∧ pu ≤ 2000000000 := by omega
  have hV := @IM_P D s A
  have hz1 : -2147483648 ≤ (xs (i + 1)).toInt ∧ (xs (i + 1)).toInt ≤ 2147483647 := i32_rng _
  have hz2 : -2147483648 ≤ (xs (i + 2)).toInt ∧ (xs (i + 2)).toInt ≤ 2147483647 := i32_rng _
  have hz3 : -2147483648 ≤ (xs (i + 3)).toInt ∧ (xs (i + 3)).toInt ≤ 2147483647 := i32_rng _
  obtain ⟨z1, hz1e⟩ : ∃ z, z = (xs (i + 1)).toInt := ⟨_, rfl⟩
  obtain ⟨z2, hz2e⟩ : ∃ z, z = (xs (i + 2)).toInt := ⟨_, rfl⟩
  obtain ⟨z3, hz3e⟩ : ∃ z, z = (xs (i + 3)).toInt := ⟨_, rfl⟩
  rw [← hz1e] at hz1
  rw [← hz2e] at hz2
  rw [← hz3e] at hz3
  by_cases hc : (0 ≤ z1 ∧ z1 < 7) ∧ -1000000 ≤ z2 ∧ z2 ≤ 1000000
  · skip
    refine g_aload_n F 1 rfl rfl dL_law_748 ?_
    refine g_aload_n F 0 rfl rfl dL_law_749 ?_
    refine g_iload_n F 3 rfl rfl dL_law_750 ?_
    refine g_iconst F dL_law_751 ?_
    refine g_iadd F dL_law_752 ?_
    refine g_sld F hX hbl hbA (i + 1) (by omega) (by omega) (by omega) dL_law_753 ?_
    rw [← hz1e]
    refine g_aload_n F 0 rfl rfl dL_law_754 ?_
    refine g_iload_n F 3 rfl rfl dL_law_755 ?_
    refine g_iconst F dL_law_756 ?_
    refine g_iadd F dL_law_757 ?_
    refine g_sld F hX hbl hbA (i + 2) (by omega) (by omega) (by omega) dL_law_758 ?_
    rw [← hz2e]
    refine g_callVP F (As := [iv z1, iv z2]) (rest := []) (wr := wfl [wS cA se tbf (bSp X) (bSg X), wP cA pg kd lo hi co pa rk nu ct sa ((nc : Nat) : Int) ((nr : Nat) : Int), wB cA bt (bBs X).1 (bBs X).2.1 (bBs X).2.2.1 (bBs X).2.2.2, wQ cA qr (tq 0) ql qc, wTS cA tq n1 S, wMO cA md ((nc : Nat) : Int) ((nr : Nat) : Int) ke so bu bc pu qu fs cd un hb pf ef, wMP cA md kd lo hi co pa rk nu ct sa, wME cA md fr cs cn ck ch tb cr, wMX cA md fx fv sn, wMB cA md be tr wy, wMH cA md pl pr, poolE cA ad (bTb X) (fun _ => false) k]) (kX6_price l D cA x (pg 0) (bt 0) (se 0) (qr 0) so hd pl pr pu qu z1 z2 (by first | assumption | omega) (by first | assumption | omega)) (cwV 2 F.2.2.2.2.1 gL_law_X6_price rfl rfl rfl (by decide +kernel) ⟨(Nat.le_of_ble_eq_true rfl), (Nat.le_of_ble_eq_true rfl)⟩) rfl rfl (q0 := 0) rfl (wf_split (n := 14) (C := [wC cA x (pg 0) (bt 0) (se 0) (qr 0) (hd 0) so, wH cA hd pl pr pu qu]) (R := [wS cA se tbf (bSp X) (bSg X), wP cA pg kd lo hi co pa rk nu ct sa ((nc : Nat) : Int) ((nr : Nat) : Int), wB cA bt (bBs X).1 (bBs X).2.1 (bBs X).2.2.1 (bBs X).2.2.2, wQ cA qr (tq 0) ql qc, wTS cA tq n1 S, wMO cA md ((nc : Nat) : Int) ((nr : Nat) : Int) ke so bu bc pu qu fs cd un hb pf ef, wMP cA md kd lo hi co pa rk nu ct sa, wME cA md fr cs cn ck ch tb cr, wMX cA md fx fv sn, wMB cA md be tr wy, wMH cA md pl pr, poolE cA ad (bTb X) (fun _ => false) k]) [0, 6, 1, 2, 3, 4, 5, 7, 8, 9, 10, 11, 12, 13] rfl (by decide) rfl) rfl rfl (Nat.le_of_ble_eq_true rfl) ⟨by show kc + 0 ≤ 600000; omega, by show ks + 0 ≤ 7302250; omega⟩ hA dL_law_759 (fun v w hv => ?_)
    obtain ⟨hv, hw⟩ := hv
    rw [if_pos hc] at hv
    rw [if_pos hc] at hw
    subst hv
    subst hw
    refine g_perm (wfl [wC cA x (pg 0) (bt 0) (se 0) (qr 0) (hd 0) so, wS cA se tbf (bSp X) (bSg X), wP cA pg kd lo hi co pa rk nu ct sa ((nc : Nat) : Int) ((nr : Nat) : Int), wB cA bt (bBs X).1 (bBs X).2.1 (bBs X).2.2.1 (bBs X).2.2.2, wQ cA qr (tq 0) ql qc, wTS cA tq n1 S, wH cA hd pl (va_up pr z1.toNat z2) pu qu, wMO cA md ((nc : Nat) : Int) ((nr : Nat) : Int) ke so bu bc pu qu fs cd un hb pf ef, wMP cA md kd lo hi co pa rk nu ct sa, wME cA md fr cs cn ck ch tb cr, wMX cA md fx fv sn, wMB cA md be tr wy, wMH cA md pl pr, poolE cA ad (bTb X) (fun _ => false) k]) (wf_split (n := 14) (C := [wS cA se tbf (bSp X) (bSg X), wP cA pg kd lo hi co pa rk nu ct sa ((nc : Nat) : Int) ((nr : Nat) : Int), wB cA bt (bBs X).1 (bBs X).2.1 (bBs X).2.2.1 (bBs X).2.2.2, wQ cA qr (tq 0) ql qc, wTS cA tq n1 S, wMO cA md ((nc : Nat) : Int) ((nr : Nat) : Int) ke so bu bc pu qu fs cd un hb pf ef, wMP cA md kd lo hi co pa rk nu ct sa, wME cA md fr cs cn ck ch tb cr, wMX cA md fx fv sn, wMB cA md be tr wy, wMH cA md pl pr, poolE cA ad (bTb X) (fun _ => false) k]) (R := [wC cA x (pg 0) (bt 0) (se 0) (qr 0) (hd 0) so, wH cA hd pl (va_up pr z1.toNat z2) pu qu]) [1, 2, 3, 4, 5, 7, 8, 9, 10, 11, 12, 13, 0, 6] rfl (by decide) rfl).symm ?_
    refine g_eq (st' := [iv (0)]) rfl rfl rfl ?_
    refine g_aload_n F 2 rfl rfl dL_law_762 ?_
    refine g_aload_n F 0 rfl rfl dL_law_763 ?_
    refine g_iload_n F 3 rfl rfl dL_law_764 ?_
    refine g_iconst F dL_law_765 ?_
    refine g_iadd F dL_law_766 ?_
    refine g_sld F hX hbl hbA (i + 1) (by omega) (by omega) (by omega) dL_law_767 ?_
    rw [← hz1e]
    refine g_aload_n F 0 rfl rfl dL_law_768 ?_
    refine g_iload_n F 3 rfl rfl dL_law_769 ?_
    refine g_iconst F dL_law_770 ?_
    refine g_iadd F dL_law_771 ?_
    refine g_sld F hX hbl hbA (i + 2) (by omega) (by omega) (by omega) dL_law_772 ?_
    rw [← hz2e]
    refine g_callVP F (As := [iv z1, iv z2]) (rest := [iv (0)]) (wr := wfl [wC cA x (pg 0) (bt 0) (se 0) (qr 0) (hd 0) so, wS cA se tbf (bSp X) (bSg X), wP cA pg kd lo hi co pa rk nu ct sa ((nc : Nat) : Int) ((nr : Nat) : Int), wB cA bt (bBs X).1 (bBs X).2.1 (bBs X).2.2.1 (bBs X).2.2.2, wQ cA qr (tq 0) ql qc, wTS cA tq n1 S, wH cA hd pl (va_up pr z1.toNat z2) pu qu, wMP cA md kd lo hi co pa rk nu ct sa, wME cA md fr cs cn ck ch tb cr, wMX cA md fx fv sn, wMB cA md be tr wy, poolE cA ad (bTb X) (fun _ => false) k]) (kX7_price l D cA md nc nr ke so bu bc pu qu fs cd un hb pf ef pl pr z1 z2 (by first | assumption | omega) (by first | assumption | omega)) (cwV 2 F.2.2.2.2.1 gL_law_X7_price rfl rfl rfl (by decide +kernel) ⟨(Nat.le_of_ble_eq_true rfl), (Nat.le_of_ble_eq_true rfl)⟩) rfl rfl (q0 := 0) rfl (wf_split (n := 14) (C := [wMO cA md ((nc : Nat) : Int) ((nr : Nat) : Int) ke so bu bc pu qu fs cd un hb pf ef, wMH cA md pl pr]) (R := [wC cA x (pg 0) (bt 0) (se 0) (qr 0) (hd 0) so, wS cA se tbf (bSp X) (bSg X), wP cA pg kd lo hi co pa rk nu ct sa ((nc : Nat) : Int) ((nr : Nat) : Int), wB cA bt (bBs X).1 (bBs X).2.1 (bBs X).2.2.1 (bBs X).2.2.2, wQ cA qr (tq 0) ql qc, wTS cA tq n1 S, wH cA hd pl (va_up pr z1.toNat z2) pu qu, wMP cA md kd lo hi co pa rk nu ct sa, wME cA md fr cs cn ck ch tb cr, wMX cA md fx fv sn, wMB cA md be tr wy, poolE cA ad (bTb X) (fun _ => false) k]) [7, 12, 0, 1, 2, 3, 4, 5, 6, 8, 9, 10, 11, 13] rfl (by decide) rfl) rfl rfl (Nat.le_of_ble_eq_true rfl) ⟨by show kc + 0 ≤ 600000; omega, by show ks + 0 ≤ 7302250; omega⟩ hA dL_law_773 (fun v w hv => ?_)
    obtain ⟨hv, hw⟩ := hv
    rw [if_pos hc] at hv
    rw [if_pos hc] at hw
    subst hv
    subst hw
    refine g_perm (wfl [wC cA x (pg 0) (bt 0) (se 0) (qr 0) (hd 0) so, wS cA se tbf (bSp X) (bSg X), wP cA pg kd lo hi co pa rk nu ct sa ((nc : Nat) : Int) ((nr : Nat) : Int), wB cA bt (bBs X).1 (bBs X).2.1 (bBs X).2.2.1 (bBs X).2.2.2, wQ cA qr (tq 0) ql qc, wTS cA tq n1 S, wH cA hd pl (va_up pr z1.toNat z2) pu qu, wMO cA md ((nc : Nat) : Int) ((nr : Nat) : Int) ke so bu bc pu qu fs cd un hb pf ef, wMP cA md kd lo hi co pa rk nu ct sa, wME cA md fr cs cn ck ch tb cr, wMX cA md fx fv sn, wMB cA md be tr wy, wMH cA md pl (va_up pr z1.toNat z2), poolE cA ad (bTb X) (fun _ => false) k]) (wf_split (n := 14) (C := [wC cA x (pg 0) (bt 0) (se 0) (qr 0) (hd 0) so, wS cA se tbf (bSp X) (bSg X), wP cA pg kd lo hi co pa rk nu ct sa ((nc : Nat) : Int) ((nr : Nat) : Int), wB cA bt (bBs X).1 (bBs X).2.1 (bBs X).2.2.1 (bBs X).2.2.2, wQ cA qr (tq 0) ql qc, wTS cA tq n1 S, wH cA hd pl (va_up pr z1.toNat z2) pu qu, wMP cA md kd lo hi co pa rk nu ct sa, wME cA md fr cs cn ck ch tb cr, wMX cA md fx fv sn, wMB cA md be tr wy, poolE cA ad (bTb X) (fun _ => false) k]) (R := [wMO cA md ((nc : Nat) : Int) ((nr : Nat) : Int) ke so bu bc pu qu fs cd un hb pf ef, wMH cA md pl (va_up pr z1.toNat z2)]) [0, 1, 2, 3, 4, 5, 6, 8, 9, 10, 11, 13, 7, 12] rfl (by decide) rfl).symm ?_
    refine g_eq (st' := [iv (0), iv (0)]) rfl rfl rfl ?_
    refine g_ieq F (tgt := 887) (rfl) dL_law_776 (by decide) ?_
    refine g_widen (kc + 364) (ks + 8112) (by omega) (by omega) ?_
    exact hk kd lo hi co pa rk nu ct sa nc nr so X k ad tbf ql qc n1 S pl (va_up pr z1.toNat z2) pu qu ke bu bc fs cd un hb pf ef fr cs cn ck ch tb cr fx fv sn be tr wy (⟨hI.1, hI.2.1, hI.2.2.1, ⟨hpl, hpb, up_all (P := fun z => -1000000 ≤ z ∧ z ≤ 1000000) hpr (by omega), hqb⟩, hI.2.2.2.2⟩)
  · skip
    refine g_aload_n F 1 rfl rfl dL_law_748 ?_
    refine g_aload_n F 0 rfl rfl dL_law_749 ?_
    refine g_iload_n F 3 rfl rfl dL_law_750 ?_
    refine g_iconst F dL_law_751 ?_
    refine g_iadd F dL_law_752 ?_
    refine g_sld F hX hbl hbA (i + 1) (by omega) (by omega) (by omega) dL_law_753 ?_
    rw [← hz1e]
    refine g_aload_n F 0 rfl rfl dL_law_754 ?_
    refine g_iload_n F 3 rfl rfl dL_law_755 ?_
    refine g_iconst F dL_law_756 ?_
    refine g_iadd F dL_law_757 ?_
    refine g_sld F hX hbl hbA (i + 2) (by omega) (by omega) (by omega) dL_law_758 ?_
    rw [← hz2e]
    refine g_callVP F (As := [iv z1, iv z2]) (rest := []) (wr := wfl [wS cA se tbf (bSp X) (bSg X), wP cA pg kd lo hi co pa rk nu ct sa ((nc : Nat) : Int) ((nr : Nat) : Int), wB cA bt (bBs X).1 (bBs X).2.1 (bBs X).2.2.1 (bBs X).2.2.2, wQ cA qr (tq 0) ql qc, wTS cA tq n1 S, wMO cA md ((nc : Nat) : Int) ((nr : Nat) : Int) ke so bu bc pu qu fs cd un hb pf ef, wMP cA md kd lo hi co pa rk nu ct sa, wME cA md fr cs cn ck ch tb cr, wMX cA md fx fv sn, wMB cA md be tr wy, wMH cA md pl pr, poolE cA ad (bTb X) (fun _ => false) k]) (kX6_price l D cA x (pg 0) (bt 0) (se 0) (qr 0) so hd pl pr pu qu z1 z2 (by first | assumption | omega) (by first | assumption | omega)) (cwV 2 F.2.2.2.2.1 gL_law_X6_price rfl rfl rfl (by decide +kernel) ⟨(Nat.le_of_ble_eq_true rfl), (Nat.le_of_ble_eq_true rfl)⟩) rfl rfl (q0 := 0) rfl (wf_split (n := 14) (C := [wC cA x (pg 0) (bt 0) (se 0) (qr 0) (hd 0) so, wH cA hd pl pr pu qu]) (R := [wS cA se tbf (bSp X) (bSg X), wP cA pg kd lo hi co pa rk nu ct sa ((nc : Nat) : Int) ((nr : Nat) : Int), wB cA bt (bBs X).1 (bBs X).2.1 (bBs X).2.2.1 (bBs X).2.2.2, wQ cA qr (tq 0) ql qc, wTS cA tq n1 S, wMO cA md ((nc : Nat) : Int) ((nr : Nat) : Int) ke so bu bc pu qu fs cd un hb pf ef, wMP cA md kd lo hi co pa rk nu ct sa, wME cA md fr cs cn ck ch tb cr, wMX cA md fx fv sn, wMB cA md be tr wy, wMH cA md pl pr, poolE cA ad (bTb X) (fun _ => false) k]) [0, 6, 1, 2, 3, 4, 5, 7, 8, 9, 10, 11, 12, 13] rfl (by decide) rfl) rfl rfl (Nat.le_of_ble_eq_true rfl) ⟨by show kc + 0 ≤ 600000; omega, by show ks + 0 ≤ 7302250; omega⟩ hA dL_law_759 (fun v w hv => ?_)
    obtain ⟨hv, hw⟩ := hv
    rw [if_neg hc] at hv
    rw [if_neg hc] at hw
    subst hv
    subst hw
    refine g_perm (wfl [wC cA x (pg 0) (bt 0) (se 0) (qr 0) (hd 0) so, wS cA se tbf (bSp X) (bSg X), wP cA pg kd lo hi co pa rk nu ct sa ((nc : Nat) : Int) ((nr : Nat) : Int), wB cA bt (bBs X).1 (bBs X).2.1 (bBs X).2.2.1 (bBs X).2.2.2, wQ cA qr (tq 0) ql qc, wTS cA tq n1 S, wH cA hd pl pr pu qu, wMO cA md ((nc : Nat) : Int) ((nr : Nat) : Int) ke so bu bc pu qu fs cd un hb pf ef, wMP cA md kd lo hi co pa rk nu ct sa, wME cA md fr cs cn ck ch tb cr, wMX cA md fx fv sn, wMB cA md be tr wy, wMH cA md pl pr, poolE cA ad (bTb X) (fun _ => false) k]) (wf_split (n := 14) (C := [wS cA se tbf (bSp X) (bSg X), wP cA pg kd lo hi co pa rk nu ct sa ((nc : Nat) : Int) ((nr : Nat) : Int), wB cA bt (bBs X).1 (bBs X).2.1 (bBs X).2.2.1 (bBs X).2.2.2, wQ cA qr (tq 0) ql qc, wTS cA tq n1 S, wMO cA md ((nc : Nat) : Int) ((nr : Nat) : Int) ke so bu bc pu qu fs cd un hb pf ef, wMP cA md kd lo hi co pa rk nu ct sa, wME cA md fr cs cn ck ch tb cr, wMX cA md fx fv sn, wMB cA md be tr wy, wMH cA md pl pr, poolE cA ad (bTb X) (fun _ => false) k]) (R := [wC cA x (pg 0) (bt 0) (se 0) (qr 0) (hd 0) so, wH cA hd pl pr pu qu]) [1, 2, 3, 4, 5, 7, 8, 9, 10, 11, 12, 13, 0, 6] rfl (by decide) rfl).symm ?_
    refine g_eq (st' := [iv (-2000000001)]) rfl rfl rfl ?_
    refine g_aload_n F 2 rfl rfl dL_law_762 ?_
    refine g_aload_n F 0 rfl rfl dL_law_763 ?_
    refine g_iload_n F 3 rfl rfl dL_law_764 ?_
    refine g_iconst F dL_law_765 ?_
    refine g_iadd F dL_law_766 ?_
    refine g_sld F hX hbl hbA (i + 1) (by omega) (by omega) (by omega) dL_law_767 ?_
    rw [← hz1e]
    refine g_aload_n F 0 rfl rfl dL_law_768 ?_
    refine g_iload_n F 3 rfl rfl dL_law_769 ?_
    refine g_iconst F dL_law_770 ?_
    refine g_iadd F dL_law_771 ?_
    refine g_sld F hX hbl hbA (i + 2) (by omega) (by omega) (by omega) dL_law_772 ?_
    rw [← hz2e]
    refine g_callVP F (As := [iv z1, iv z2]) (rest := [iv (-2000000001)]) (wr := wfl [wC cA x (pg 0) (bt 0) (se 0) (qr 0) (hd 0) so, wS cA se tbf (bSp X) (bSg X), wP cA pg kd lo hi co pa rk nu ct sa ((nc : Nat) : Int) ((nr : Nat) : Int), wB cA bt (bBs X).1 (bBs X).2.1 (bBs X).2.2.1 (bBs X).2.2.2, wQ cA qr (tq 0) ql qc, wTS cA tq n1 S, wH cA hd pl pr pu qu, wMP cA md kd lo hi co pa rk nu ct sa, wME cA md fr cs cn ck ch tb cr, wMX cA md fx fv sn, wMB cA md be tr wy, poolE cA ad (bTb X) (fun _ => false) k]) (kX7_price l D cA md nc nr ke so bu bc pu qu fs cd un hb pf ef pl pr z1 z2 (by first | assumption | omega) (by first | assumption | omega)) (cwV 2 F.2.2.2.2.1 gL_law_X7_price rfl rfl rfl (by decide +kernel) ⟨(Nat.le_of_ble_eq_true rfl), (Nat.le_of_ble_eq_true rfl)⟩) rfl rfl (q0 := 0) rfl (wf_split (n := 14) (C := [wMO cA md ((nc : Nat) : Int) ((nr : Nat) : Int) ke so bu bc pu qu fs cd un hb pf ef, wMH cA md pl pr]) (R := [wC cA x (pg 0) (bt 0) (se 0) (qr 0) (hd 0) so, wS cA se tbf (bSp X) (bSg X), wP cA pg kd lo hi co pa rk nu ct sa ((nc : Nat) : Int) ((nr : Nat) : Int), wB cA bt (bBs X).1 (bBs X).2.1 (bBs X).2.2.1 (bBs X).2.2.2, wQ cA qr (tq 0) ql qc, wTS cA tq n1 S, wH cA hd pl pr pu qu, wMP cA md kd lo hi co pa rk nu ct sa, wME cA md fr cs cn ck ch tb cr, wMX cA md fx fv sn, wMB cA md be tr wy, poolE cA ad (bTb X) (fun _ => false) k]) [7, 12, 0, 1, 2, 3, 4, 5, 6, 8, 9, 10, 11, 13] rfl (by decide) rfl) rfl rfl (Nat.le_of_ble_eq_true rfl) ⟨by show kc + 0 ≤ 600000; omega, by show ks + 0 ≤ 7302250; omega⟩ hA dL_law_773 (fun v w hv => ?_)
    obtain ⟨hv, hw⟩ := hv
    rw [if_neg hc] at hv
    rw [if_neg hc] at hw
    subst hv
    subst hw
    refine g_perm (wfl [wC cA x (pg 0) (bt 0) (se 0) (qr 0) (hd 0) so, wS cA se tbf (bSp X) (bSg X), wP cA pg kd lo hi co pa rk nu ct sa ((nc : Nat) : Int) ((nr : Nat) : Int), wB cA bt (bBs X).1 (bBs X).2.1 (bBs X).2.2.1 (bBs X).2.2.2, wQ cA qr (tq 0) ql qc, wTS cA tq n1 S, wH cA hd pl pr pu qu, wMO cA md ((nc : Nat) : Int) ((nr : Nat) : Int) ke so bu bc pu qu fs cd un hb pf ef, wMP cA md kd lo hi co pa rk nu ct sa, wME cA md fr cs cn ck ch tb cr, wMX cA md fx fv sn, wMB cA md be tr wy, wMH cA md pl pr, poolE cA ad (bTb X) (fun _ => false) k]) (wf_split (n := 14) (C := [wC cA x (pg 0) (bt 0) (se 0) (qr 0) (hd 0) so, wS cA se tbf (bSp X) (bSg X), wP cA pg kd lo hi co pa rk nu ct sa ((nc : Nat) : Int) ((nr : Nat) : Int), wB cA bt (bBs X).1 (bBs X).2.1 (bBs X).2.2.1 (bBs X).2.2.2, wQ cA qr (tq 0) ql qc, wTS cA tq n1 S, wH cA hd pl pr pu qu, wMP cA md kd lo hi co pa rk nu ct sa, wME cA md fr cs cn ck ch tb cr, wMX cA md fx fv sn, wMB cA md be tr wy, poolE cA ad (bTb X) (fun _ => false) k]) (R := [wMO cA md ((nc : Nat) : Int) ((nr : Nat) : Int) ke so bu bc pu qu fs cd un hb pf ef, wMH cA md pl pr]) [0, 1, 2, 3, 4, 5, 6, 8, 9, 10, 11, 13, 7, 12] rfl (by decide) rfl).symm ?_
    refine g_eq (st' := [iv (-2000000001), iv (-2000000001)]) rfl rfl rfl ?_
    refine g_ieq F (tgt := 887) (rfl) dL_law_776 (by decide) ?_
    refine g_widen (kc + 364) (ks + 8112) (by omega) (by omega) ?_
    exact hk kd lo hi co pa rk nu ct sa nc nr so X k ad tbf ql qc n1 S pl pr pu qu ke bu bc fs cd un hb pf ef fr cs cn ck ch tb cr fx fv sn be tr wy (hI)

set_option maxHeartbeats 4000000 in
set_option maxRecDepth 100000 in
theorem lc_over {p : Program} {l : Launch} {e : Env} {s : State} {m : MethodId} {below : List Frame} {meth : Method} {c : Code} {Q : State → Prop} {D : va_G} {cA : Nat → ClassId} {A : Nat → Prop} {sb Ln : Nat} {xs : Nat → Int32} {x se pg bt qr tq hd md : Nat → Nat} (F : Fx p s m #[Value.ref sb] meth c cL_law 4 RL wsL_law ret D cA) (hA : ∀ q, s.heap.size ≤ q → A q) (hX : va_X sb Ln xs s s.heap) (hbl : sb < s.heap.size) (hbA : ¬ A sb) (hL : Ln ≤ 2048) (i : Nat) (hi : i + 4 ≤ Ln) (kc ks : Nat) (hkc : kc + 364 ≤ 600000 ∧ ks + 8112 ≤ 7302250) (hk : lwN p l e s m sb below meth c Q D cA A x se pg bt qr tq hd md i (kc + 364) (ks + 8112) 887) : lwN p l e s m sb below meth c Q D cA A x se pg bt qr tq hd md i kc ks 711 := by
  intro kd lo hi co pa rk nu ct sa nc nr so X k ad tbf ql qc n1 S pl pr pu qu ke bu bc fs cd un hb pf ef fr cs cn ck ch tb cr fx fv sn be tr wy hI
  obtain ⟨hpr0, ⟨hS, hbd, hbo, hk51, ht1, ht2, h00⟩, ⟨hSq, hzq⟩, ⟨hpl, hpb, hpr, hqb⟩, ⟨hbm, hke⟩, hrel⟩ := id hI
  obtain ⟨hP, hR, hco, hpa5, hpaN, hle, zs, zc⟩ := id hpr0
  have qnc := hP.1
  have qkd := hP.2.1
  have qlo := hP.2.2.1
  have qhi : ∀ j, hi j = -2000000005 ∨ (-20 ≤ hi j ∧ hi j ≤ 20) := hP.2.2.2.1
  have qnr := hR.1
  have qrk := hR.2.1
  have qnu := hR.2.2.1
  have qnu2 : ∀ j, -198 ≤ nu j ∧ nu j ≤ 198 := fun j => by have := qnu j; omega
  have qsa := hR.2.2.2.1
  have qct := hR.2.2.2.2
  have hbb := hbd.1
  have hbc9 := hbd.2.1
  have hbv := hbd.2.2
  have hbu9 : 0 < bu ∧ bu ≤ 8000000 := hbm.1
  have hbcm : -200000000000 ≤ bc ∧ bc ≤ 200000000000 := hbm.2.1
  have hbem : ∀ j, -200000000000 ≤ be j ∧ be j ≤ 200000000000 := hbm.2.2
  have hpb1 : 1 ≤ pu ∧ pu ≤ 2000000000 := by omega
  have hV := @IM_P D s A
  have hz1 : -2147483648 ≤ (xs (i + 1)).toInt ∧ (xs (i + 1)).toInt ≤ 2147483647 := i32_rng _
  have hz2 : -2147483648 ≤ (xs (i + 2)).toInt ∧ (xs (i + 2)).toInt ≤ 2147483647 := i32_rng _
  have hz3 : -2147483648 ≤ (xs (i + 3)).toInt ∧ (xs (i + 3)).toInt ≤ 2147483647 := i32_rng _
  obtain ⟨z1, hz1e⟩ : ∃ z, z = (xs (i + 1)).toInt := ⟨_, rfl⟩
  obtain ⟨z2, hz2e⟩ : ∃ z, z = (xs (i + 2)).toInt := ⟨_, rfl⟩
  obtain ⟨z3, hz3e⟩ : ∃ z, z = (xs (i + 3)).toInt := ⟨_, rfl⟩
  rw [← hz1e] at hz1
  rw [← hz2e] at hz2
  rw [← hz3e] at hz3
  by_cases hc : 1 ≤ z1 ∧ z1 ≤ 1000000
  · skip
    refine g_aload_n F 1 rfl rfl dL_law_711 ?_
    refine g_aload_n F 0 rfl rfl dL_law_712 ?_
    refine g_iload_n F 3 rfl rfl dL_law_713 ?_
    refine g_iconst F dL_law_714 ?_
    refine g_iadd F dL_law_715 ?_
    refine g_sld F hX hbl hbA (i + 1) (by omega) (by omega) (by omega) dL_law_716 ?_
    rw [← hz1e]
    refine g_callVP F (As := [iv z1]) (rest := []) (wr := wfl [wS cA se tbf (bSp X) (bSg X), wP cA pg kd lo hi co pa rk nu ct sa ((nc : Nat) : Int) ((nr : Nat) : Int), wB cA bt (bBs X).1 (bBs X).2.1 (bBs X).2.2.1 (bBs X).2.2.2, wQ cA qr (tq 0) ql qc, wTS cA tq n1 S, wMO cA md ((nc : Nat) : Int) ((nr : Nat) : Int) ke so bu bc pu qu fs cd un hb pf ef, wMP cA md kd lo hi co pa rk nu ct sa, wME cA md fr cs cn ck ch tb cr, wMX cA md fx fv sn, wMB cA md be tr wy, wMH cA md pl pr, poolE cA ad (bTb X) (fun _ => false) k]) (kX6_over l D cA x (pg 0) (bt 0) (se 0) (qr 0) so hd pl pr pu qu z1 (by first | assumption | omega) (by first | assumption | omega)) (cwV 1 F.2.2.2.2.1 gL_law_X6_over rfl rfl rfl (by decide +kernel) ⟨(Nat.le_of_ble_eq_true rfl), (Nat.le_of_ble_eq_true rfl)⟩) rfl rfl (q0 := 0) rfl (wf_split (n := 14) (C := [wC cA x (pg 0) (bt 0) (se 0) (qr 0) (hd 0) so, wH cA hd pl pr pu qu]) (R := [wS cA se tbf (bSp X) (bSg X), wP cA pg kd lo hi co pa rk nu ct sa ((nc : Nat) : Int) ((nr : Nat) : Int), wB cA bt (bBs X).1 (bBs X).2.1 (bBs X).2.2.1 (bBs X).2.2.2, wQ cA qr (tq 0) ql qc, wTS cA tq n1 S, wMO cA md ((nc : Nat) : Int) ((nr : Nat) : Int) ke so bu bc pu qu fs cd un hb pf ef, wMP cA md kd lo hi co pa rk nu ct sa, wME cA md fr cs cn ck ch tb cr, wMX cA md fx fv sn, wMB cA md be tr wy, wMH cA md pl pr, poolE cA ad (bTb X) (fun _ => false) k]) [0, 6, 1, 2, 3, 4, 5, 7, 8, 9, 10, 11, 12, 13] rfl (by decide) rfl) rfl rfl (Nat.le_of_ble_eq_true rfl) ⟨by show kc + 0 ≤ 600000; omega, by show ks + 0 ≤ 7302250; omega⟩ hA dL_law_717 (fun v w hv => ?_)
    obtain ⟨hv, hw⟩ := hv
    rw [if_pos hc] at hv
    rw [if_pos hc] at hw
    subst hv
    subst hw
    refine g_perm (wfl [wC cA x (pg 0) (bt 0) (se 0) (qr 0) (hd 0) so, wS cA se tbf (bSp X) (bSg X), wP cA pg kd lo hi co pa rk nu ct sa ((nc : Nat) : Int) ((nr : Nat) : Int), wB cA bt (bBs X).1 (bBs X).2.1 (bBs X).2.2.1 (bBs X).2.2.2, wQ cA qr (tq 0) ql qc, wTS cA tq n1 S, wH cA hd pl pr z1 qu, wMO cA md ((nc : Nat) : Int) ((nr : Nat) : Int) ke so bu bc pu qu fs cd un hb pf ef, wMP cA md kd lo hi co pa rk nu ct sa, wME cA md fr cs cn ck ch tb cr, wMX cA md fx fv sn, wMB cA md be tr wy, wMH cA md pl pr, poolE cA ad (bTb X) (fun _ => false) k]) (wf_split (n := 14) (C := [wS cA se tbf (bSp X) (bSg X), wP cA pg kd lo hi co pa rk nu ct sa ((nc : Nat) : Int) ((nr : Nat) : Int), wB cA bt (bBs X).1 (bBs X).2.1 (bBs X).2.2.1 (bBs X).2.2.2, wQ cA qr (tq 0) ql qc, wTS cA tq n1 S, wMO cA md ((nc : Nat) : Int) ((nr : Nat) : Int) ke so bu bc pu qu fs cd un hb pf ef, wMP cA md kd lo hi co pa rk nu ct sa, wME cA md fr cs cn ck ch tb cr, wMX cA md fx fv sn, wMB cA md be tr wy, wMH cA md pl pr, poolE cA ad (bTb X) (fun _ => false) k]) (R := [wC cA x (pg 0) (bt 0) (se 0) (qr 0) (hd 0) so, wH cA hd pl pr z1 qu]) [1, 2, 3, 4, 5, 7, 8, 9, 10, 11, 12, 13, 0, 6] rfl (by decide) rfl).symm ?_
    refine g_eq (st' := [iv (pu)]) rfl rfl rfl ?_
    refine g_aload_n F 2 rfl rfl dL_law_720 ?_
    refine g_aload_n F 0 rfl rfl dL_law_721 ?_
    refine g_iload_n F 3 rfl rfl dL_law_722 ?_
    refine g_iconst F dL_law_723 ?_
    refine g_iadd F dL_law_724 ?_
    refine g_sld F hX hbl hbA (i + 1) (by omega) (by omega) (by omega) dL_law_725 ?_
    rw [← hz1e]
    refine g_callVP F (As := [iv z1]) (rest := [iv (pu)]) (wr := wfl [wC cA x (pg 0) (bt 0) (se 0) (qr 0) (hd 0) so, wS cA se tbf (bSp X) (bSg X), wP cA pg kd lo hi co pa rk nu ct sa ((nc : Nat) : Int) ((nr : Nat) : Int), wB cA bt (bBs X).1 (bBs X).2.1 (bBs X).2.2.1 (bBs X).2.2.2, wQ cA qr (tq 0) ql qc, wTS cA tq n1 S, wH cA hd pl pr z1 qu, wMP cA md kd lo hi co pa rk nu ct sa, wME cA md fr cs cn ck ch tb cr, wMX cA md fx fv sn, wMB cA md be tr wy, wMH cA md pl pr, poolE cA ad (bTb X) (fun _ => false) k]) (kX7_over l D cA md nc nr ke so bu bc pu qu fs cd un hb pf ef z1 (by first | assumption | omega)) (cwV 1 F.2.2.2.2.1 gL_law_X7_over rfl rfl rfl (by decide +kernel) ⟨(Nat.le_of_ble_eq_true rfl), (Nat.le_of_ble_eq_true rfl)⟩) rfl rfl (q0 := 0) rfl (wf_split (n := 14) (C := [wMO cA md ((nc : Nat) : Int) ((nr : Nat) : Int) ke so bu bc pu qu fs cd un hb pf ef]) (R := [wC cA x (pg 0) (bt 0) (se 0) (qr 0) (hd 0) so, wS cA se tbf (bSp X) (bSg X), wP cA pg kd lo hi co pa rk nu ct sa ((nc : Nat) : Int) ((nr : Nat) : Int), wB cA bt (bBs X).1 (bBs X).2.1 (bBs X).2.2.1 (bBs X).2.2.2, wQ cA qr (tq 0) ql qc, wTS cA tq n1 S, wH cA hd pl pr z1 qu, wMP cA md kd lo hi co pa rk nu ct sa, wME cA md fr cs cn ck ch tb cr, wMX cA md fx fv sn, wMB cA md be tr wy, wMH cA md pl pr, poolE cA ad (bTb X) (fun _ => false) k]) [7, 0, 1, 2, 3, 4, 5, 6, 8, 9, 10, 11, 12, 13] rfl (by decide) rfl) rfl rfl (Nat.le_of_ble_eq_true rfl) ⟨by show kc + 0 ≤ 600000; omega, by show ks + 0 ≤ 7302250; omega⟩ hA dL_law_726 (fun v w hv => ?_)
    obtain ⟨hv, hw⟩ := hv
    rw [if_pos hc] at hv
    rw [if_pos hc] at hw
    subst hv
    subst hw
    refine g_perm (wfl [wC cA x (pg 0) (bt 0) (se 0) (qr 0) (hd 0) so, wS cA se tbf (bSp X) (bSg X), wP cA pg kd lo hi co pa rk nu ct sa ((nc : Nat) : Int) ((nr : Nat) : Int), wB cA bt (bBs X).1 (bBs X).2.1 (bBs X).2.2.1 (bBs X).2.2.2, wQ cA qr (tq 0) ql qc, wTS cA tq n1 S, wH cA hd pl pr z1 qu, wMO cA md ((nc : Nat) : Int) ((nr : Nat) : Int) ke so bu bc z1 qu fs cd un hb pf ef, wMP cA md kd lo hi co pa rk nu ct sa, wME cA md fr cs cn ck ch tb cr, wMX cA md fx fv sn, wMB cA md be tr wy, wMH cA md pl pr, poolE cA ad (bTb X) (fun _ => false) k]) (wf_split (n := 14) (C := [wC cA x (pg 0) (bt 0) (se 0) (qr 0) (hd 0) so, wS cA se tbf (bSp X) (bSg X), wP cA pg kd lo hi co pa rk nu ct sa ((nc : Nat) : Int) ((nr : Nat) : Int), wB cA bt (bBs X).1 (bBs X).2.1 (bBs X).2.2.1 (bBs X).2.2.2, wQ cA qr (tq 0) ql qc, wTS cA tq n1 S, wH cA hd pl pr z1 qu, wMP cA md kd lo hi co pa rk nu ct sa, wME cA md fr cs cn ck ch tb cr, wMX cA md fx fv sn, wMB cA md be tr wy, wMH cA md pl pr, poolE cA ad (bTb X) (fun _ => false) k]) (R := [wMO cA md ((nc : Nat) : Int) ((nr : Nat) : Int) ke so bu bc z1 qu fs cd un hb pf ef]) [0, 1, 2, 3, 4, 5, 6, 8, 9, 10, 11, 12, 13, 7] rfl (by decide) rfl).symm ?_
    refine g_eq (st' := [iv (pu), iv (pu)]) rfl rfl rfl ?_
    refine g_ieq F (tgt := 887) (rfl) dL_law_729 (by decide) ?_
    refine g_widen (kc + 364) (ks + 8112) (by omega) (by omega) ?_
    exact hk kd lo hi co pa rk nu ct sa nc nr so X k ad tbf ql qc n1 S pl pr z1 qu ke bu bc fs cd un hb pf ef fr cs cn ck ch tb cr fx fv sn be tr wy (⟨hI.1, hI.2.1, hI.2.2.1, ⟨hpl, by omega, hpr, hqb⟩, hI.2.2.2.2⟩)
  · skip
    refine g_aload_n F 1 rfl rfl dL_law_711 ?_
    refine g_aload_n F 0 rfl rfl dL_law_712 ?_
    refine g_iload_n F 3 rfl rfl dL_law_713 ?_
    refine g_iconst F dL_law_714 ?_
    refine g_iadd F dL_law_715 ?_
    refine g_sld F hX hbl hbA (i + 1) (by omega) (by omega) (by omega) dL_law_716 ?_
    rw [← hz1e]
    refine g_callVP F (As := [iv z1]) (rest := []) (wr := wfl [wS cA se tbf (bSp X) (bSg X), wP cA pg kd lo hi co pa rk nu ct sa ((nc : Nat) : Int) ((nr : Nat) : Int), wB cA bt (bBs X).1 (bBs X).2.1 (bBs X).2.2.1 (bBs X).2.2.2, wQ cA qr (tq 0) ql qc, wTS cA tq n1 S, wMO cA md ((nc : Nat) : Int) ((nr : Nat) : Int) ke so bu bc pu qu fs cd un hb pf ef, wMP cA md kd lo hi co pa rk nu ct sa, wME cA md fr cs cn ck ch tb cr, wMX cA md fx fv sn, wMB cA md be tr wy, wMH cA md pl pr, poolE cA ad (bTb X) (fun _ => false) k]) (kX6_over l D cA x (pg 0) (bt 0) (se 0) (qr 0) so hd pl pr pu qu z1 (by first | assumption | omega) (by first | assumption | omega)) (cwV 1 F.2.2.2.2.1 gL_law_X6_over rfl rfl rfl (by decide +kernel) ⟨(Nat.le_of_ble_eq_true rfl), (Nat.le_of_ble_eq_true rfl)⟩) rfl rfl (q0 := 0) rfl (wf_split (n := 14) (C := [wC cA x (pg 0) (bt 0) (se 0) (qr 0) (hd 0) so, wH cA hd pl pr pu qu]) (R := [wS cA se tbf (bSp X) (bSg X), wP cA pg kd lo hi co pa rk nu ct sa ((nc : Nat) : Int) ((nr : Nat) : Int), wB cA bt (bBs X).1 (bBs X).2.1 (bBs X).2.2.1 (bBs X).2.2.2, wQ cA qr (tq 0) ql qc, wTS cA tq n1 S, wMO cA md ((nc : Nat) : Int) ((nr : Nat) : Int) ke so bu bc pu qu fs cd un hb pf ef, wMP cA md kd lo hi co pa rk nu ct sa, wME cA md fr cs cn ck ch tb cr, wMX cA md fx fv sn, wMB cA md be tr wy, wMH cA md pl pr, poolE cA ad (bTb X) (fun _ => false) k]) [0, 6, 1, 2, 3, 4, 5, 7, 8, 9, 10, 11, 12, 13] rfl (by decide) rfl) rfl rfl (Nat.le_of_ble_eq_true rfl) ⟨by show kc + 0 ≤ 600000; omega, by show ks + 0 ≤ 7302250; omega⟩ hA dL_law_717 (fun v w hv => ?_)
    obtain ⟨hv, hw⟩ := hv
    rw [if_neg hc] at hv
    rw [if_neg hc] at hw
    subst hv
    subst hw
    refine g_perm (wfl [wC cA x (pg 0) (bt 0) (se 0) (qr 0) (hd 0) so, wS cA se tbf (bSp X) (bSg X), wP cA pg kd lo hi co pa rk nu ct sa ((nc : Nat) : Int) ((nr : Nat) : Int), wB cA bt (bBs X).1 (bBs X).2.1 (bBs X).2.2.1 (bBs X).2.2.2, wQ cA qr (tq 0) ql qc, wTS cA tq n1 S, wH cA hd pl pr pu qu, wMO cA md ((nc : Nat) : Int) ((nr : Nat) : Int) ke so bu bc pu qu fs cd un hb pf ef, wMP cA md kd lo hi co pa rk nu ct sa, wME cA md fr cs cn ck ch tb cr, wMX cA md fx fv sn, wMB cA md be tr wy, wMH cA md pl pr, poolE cA ad (bTb X) (fun _ => false) k]) (wf_split (n := 14) (C := [wS cA se tbf (bSp X) (bSg X), wP cA pg kd lo hi co pa rk nu ct sa ((nc : Nat) : Int) ((nr : Nat) : Int), wB cA bt (bBs X).1 (bBs X).2.1 (bBs X).2.2.1 (bBs X).2.2.2, wQ cA qr (tq 0) ql qc, wTS cA tq n1 S, wMO cA md ((nc : Nat) : Int) ((nr : Nat) : Int) ke so bu bc pu qu fs cd un hb pf ef, wMP cA md kd lo hi co pa rk nu ct sa, wME cA md fr cs cn ck ch tb cr, wMX cA md fx fv sn, wMB cA md be tr wy, wMH cA md pl pr, poolE cA ad (bTb X) (fun _ => false) k]) (R := [wC cA x (pg 0) (bt 0) (se 0) (qr 0) (hd 0) so, wH cA hd pl pr pu qu]) [1, 2, 3, 4, 5, 7, 8, 9, 10, 11, 12, 13, 0, 6] rfl (by decide) rfl).symm ?_
    refine g_eq (st' := [iv (-2000000001)]) rfl rfl rfl ?_
    refine g_aload_n F 2 rfl rfl dL_law_720 ?_
    refine g_aload_n F 0 rfl rfl dL_law_721 ?_
    refine g_iload_n F 3 rfl rfl dL_law_722 ?_
    refine g_iconst F dL_law_723 ?_
    refine g_iadd F dL_law_724 ?_
    refine g_sld F hX hbl hbA (i + 1) (by omega) (by omega) (by omega) dL_law_725 ?_
    rw [← hz1e]
    refine g_callVP F (As := [iv z1]) (rest := [iv (-2000000001)]) (wr := wfl [wC cA x (pg 0) (bt 0) (se 0) (qr 0) (hd 0) so, wS cA se tbf (bSp X) (bSg X), wP cA pg kd lo hi co pa rk nu ct sa ((nc : Nat) : Int) ((nr : Nat) : Int), wB cA bt (bBs X).1 (bBs X).2.1 (bBs X).2.2.1 (bBs X).2.2.2, wQ cA qr (tq 0) ql qc, wTS cA tq n1 S, wH cA hd pl pr pu qu, wMP cA md kd lo hi co pa rk nu ct sa, wME cA md fr cs cn ck ch tb cr, wMX cA md fx fv sn, wMB cA md be tr wy, wMH cA md pl pr, poolE cA ad (bTb X) (fun _ => false) k]) (kX7_over l D cA md nc nr ke so bu bc pu qu fs cd un hb pf ef z1 (by first | assumption | omega)) (cwV 1 F.2.2.2.2.1 gL_law_X7_over rfl rfl rfl (by decide +kernel) ⟨(Nat.le_of_ble_eq_true rfl), (Nat.le_of_ble_eq_true rfl)⟩) rfl rfl (q0 := 0) rfl (wf_split (n := 14) (C := [wMO cA md ((nc : Nat) : Int) ((nr : Nat) : Int) ke so bu bc pu qu fs cd un hb pf ef]) (R := [wC cA x (pg 0) (bt 0) (se 0) (qr 0) (hd 0) so, wS cA se tbf (bSp X) (bSg X), wP cA pg kd lo hi co pa rk nu ct sa ((nc : Nat) : Int) ((nr : Nat) : Int), wB cA bt (bBs X).1 (bBs X).2.1 (bBs X).2.2.1 (bBs X).2.2.2, wQ cA qr (tq 0) ql qc, wTS cA tq n1 S, wH cA hd pl pr pu qu, wMP cA md kd lo hi co pa rk nu ct sa, wME cA md fr cs cn ck ch tb cr, wMX cA md fx fv sn, wMB cA md be tr wy, wMH cA md pl pr, poolE cA ad (bTb X) (fun _ => false) k]) [7, 0, 1, 2, 3, 4, 5, 6, 8, 9, 10, 11, 12, 13] rfl (by decide) rfl) rfl rfl (Nat.le_of_ble_eq_true rfl) ⟨by show kc + 0 ≤ 600000; omega, by show ks + 0 ≤ 7302250; omega⟩ hA dL_law_726 (fun v w hv => ?_)
    obtain ⟨hv, hw⟩ := hv
    rw [if_neg hc] at hv
    rw [if_neg hc] at hw
    subst hv
    subst hw
    refine g_perm (wfl [wC cA x (pg 0) (bt 0) (se 0) (qr 0) (hd 0) so, wS cA se tbf (bSp X) (bSg X), wP cA pg kd lo hi co pa rk nu ct sa ((nc : Nat) : Int) ((nr : Nat) : Int), wB cA bt (bBs X).1 (bBs X).2.1 (bBs X).2.2.1 (bBs X).2.2.2, wQ cA qr (tq 0) ql qc, wTS cA tq n1 S, wH cA hd pl pr pu qu, wMO cA md ((nc : Nat) : Int) ((nr : Nat) : Int) ke so bu bc pu qu fs cd un hb pf ef, wMP cA md kd lo hi co pa rk nu ct sa, wME cA md fr cs cn ck ch tb cr, wMX cA md fx fv sn, wMB cA md be tr wy, wMH cA md pl pr, poolE cA ad (bTb X) (fun _ => false) k]) (wf_split (n := 14) (C := [wC cA x (pg 0) (bt 0) (se 0) (qr 0) (hd 0) so, wS cA se tbf (bSp X) (bSg X), wP cA pg kd lo hi co pa rk nu ct sa ((nc : Nat) : Int) ((nr : Nat) : Int), wB cA bt (bBs X).1 (bBs X).2.1 (bBs X).2.2.1 (bBs X).2.2.2, wQ cA qr (tq 0) ql qc, wTS cA tq n1 S, wH cA hd pl pr pu qu, wMP cA md kd lo hi co pa rk nu ct sa, wME cA md fr cs cn ck ch tb cr, wMX cA md fx fv sn, wMB cA md be tr wy, wMH cA md pl pr, poolE cA ad (bTb X) (fun _ => false) k]) (R := [wMO cA md ((nc : Nat) : Int) ((nr : Nat) : Int) ke so bu bc pu qu fs cd un hb pf ef]) [0, 1, 2, 3, 4, 5, 6, 8, 9, 10, 11, 12, 13, 7] rfl (by decide) rfl).symm ?_
    refine g_eq (st' := [iv (-2000000001), iv (-2000000001)]) rfl rfl rfl ?_
    refine g_ieq F (tgt := 887) (rfl) dL_law_729 (by decide) ?_
    refine g_widen (kc + 364) (ks + 8112) (by omega) (by omega) ?_
    exact hk kd lo hi co pa rk nu ct sa nc nr so X k ad tbf ql qc n1 S pl pr pu qu ke bu bc fs cd un hb pf ef fr cs cn ck ch tb cr fx fv sn be tr wy (hI)

set_option maxHeartbeats 4000000 in
set_option maxRecDepth 100000 in
theorem lc_pricesOver {p : Program} {l : Launch} {e : Env} {s : State} {m : MethodId} {below : List Frame} {meth : Method} {c : Code} {Q : State → Prop} {D : va_G} {cA : Nat → ClassId} {A : Nat → Prop} {sb Ln : Nat} {xs : Nat → Int32} {x se pg bt qr tq hd md : Nat → Nat} (F : Fx p s m #[Value.ref sb] meth c cL_law 4 RL wsL_law ret D cA) (hA : ∀ q, s.heap.size ≤ q → A q) (hX : va_X sb Ln xs s s.heap) (hbl : sb < s.heap.size) (hbA : ¬ A sb) (hL : Ln ≤ 2048) (i : Nat) (hi : i + 4 ≤ Ln) (kc ks : Nat) (hkc : kc + 364 ≤ 600000 ∧ ks + 8112 ≤ 7302250) (hk : lwN p l e s m sb below meth c Q D cA A x se pg bt qr tq hd md i (kc + 364) (ks + 8112) 887) : lwN p l e s m sb below meth c Q D cA A x se pg bt qr tq hd md i kc ks 781 := by
  intro kd lo hi co pa rk nu ct sa nc nr so X k ad tbf ql qc n1 S pl pr pu qu ke bu bc fs cd un hb pf ef fr cs cn ck ch tb cr fx fv sn be tr wy hI
  obtain ⟨hpr0, ⟨hS, hbd, hbo, hk51, ht1, ht2, h00⟩, ⟨hSq, hzq⟩, ⟨hpl, hpb, hpr, hqb⟩, ⟨hbm, hke⟩, hrel⟩ := id hI
  obtain ⟨hP, hR, hco, hpa5, hpaN, hle, zs, zc⟩ := id hpr0
  have qnc := hP.1
  have qkd := hP.2.1
  have qlo := hP.2.2.1
  have qhi : ∀ j, hi j = -2000000005 ∨ (-20 ≤ hi j ∧ hi j ≤ 20) := hP.2.2.2.1
  have qnr := hR.1
  have qrk := hR.2.1
  have qnu := hR.2.2.1
  have qnu2 : ∀ j, -198 ≤ nu j ∧ nu j ≤ 198 := fun j => by have := qnu j; omega
  have qsa := hR.2.2.2.1
  have qct := hR.2.2.2.2
  have hbb := hbd.1
  have hbc9 := hbd.2.1
  have hbv := hbd.2.2
  have hbu9 : 0 < bu ∧ bu ≤ 8000000 := hbm.1
  have hbcm : -200000000000 ≤ bc ∧ bc ≤ 200000000000 := hbm.2.1
  have hbem : ∀ j, -200000000000 ≤ be j ∧ be j ≤ 200000000000 := hbm.2.2
  have hpb1 : 1 ≤ pu ∧ pu ≤ 2000000000 := by omega
  have hV := @IM_P D s A
  have hz1 : -2147483648 ≤ (xs (i + 1)).toInt ∧ (xs (i + 1)).toInt ≤ 2147483647 := i32_rng _
  have hz2 : -2147483648 ≤ (xs (i + 2)).toInt ∧ (xs (i + 2)).toInt ≤ 2147483647 := i32_rng _
  have hz3 : -2147483648 ≤ (xs (i + 3)).toInt ∧ (xs (i + 3)).toInt ≤ 2147483647 := i32_rng _
  obtain ⟨z1, hz1e⟩ : ∃ z, z = (xs (i + 1)).toInt := ⟨_, rfl⟩
  obtain ⟨z2, hz2e⟩ : ∃ z, z = (xs (i + 2)).toInt := ⟨_, rfl⟩
  obtain ⟨z3, hz3e⟩ : ∃ z, z = (xs (i + 3)).toInt := ⟨_, rfl⟩
  rw [← hz1e] at hz1
  rw [← hz2e] at hz2
  rw [← hz3e] at hz3
  by_cases hc : 1 ≤ z1 ∧ z1 ≤ 1000000
  · skip
    refine g_aload_n F 1 rfl rfl dL_law_781 ?_
    refine g_aload_n F 0 rfl rfl dL_law_782 ?_
    refine g_iload_n F 3 rfl rfl dL_law_783 ?_
    refine g_iconst F dL_law_784 ?_
    refine g_iadd F dL_law_785 ?_
    refine g_sld F hX hbl hbA (i + 1) (by omega) (by omega) (by omega) dL_law_786 ?_
    rw [← hz1e]
    refine g_callVP F (As := [iv z1]) (rest := []) (wr := wfl [wS cA se tbf (bSp X) (bSg X), wP cA pg kd lo hi co pa rk nu ct sa ((nc : Nat) : Int) ((nr : Nat) : Int), wB cA bt (bBs X).1 (bBs X).2.1 (bBs X).2.2.1 (bBs X).2.2.2, wQ cA qr (tq 0) ql qc, wTS cA tq n1 S, wMO cA md ((nc : Nat) : Int) ((nr : Nat) : Int) ke so bu bc pu qu fs cd un hb pf ef, wMP cA md kd lo hi co pa rk nu ct sa, wME cA md fr cs cn ck ch tb cr, wMX cA md fx fv sn, wMB cA md be tr wy, wMH cA md pl pr, poolE cA ad (bTb X) (fun _ => false) k]) (kX6_pricesOver l D cA x (pg 0) (bt 0) (se 0) (qr 0) so hd pl pr pu qu z1 (by first | assumption | omega)) (cwV 1 F.2.2.2.2.1 gL_law_X6_pricesOver rfl rfl rfl (by decide +kernel) ⟨(Nat.le_of_ble_eq_true rfl), (Nat.le_of_ble_eq_true rfl)⟩) rfl rfl (q0 := 0) rfl (wf_split (n := 14) (C := [wC cA x (pg 0) (bt 0) (se 0) (qr 0) (hd 0) so, wH cA hd pl pr pu qu]) (R := [wS cA se tbf (bSp X) (bSg X), wP cA pg kd lo hi co pa rk nu ct sa ((nc : Nat) : Int) ((nr : Nat) : Int), wB cA bt (bBs X).1 (bBs X).2.1 (bBs X).2.2.1 (bBs X).2.2.2, wQ cA qr (tq 0) ql qc, wTS cA tq n1 S, wMO cA md ((nc : Nat) : Int) ((nr : Nat) : Int) ke so bu bc pu qu fs cd un hb pf ef, wMP cA md kd lo hi co pa rk nu ct sa, wME cA md fr cs cn ck ch tb cr, wMX cA md fx fv sn, wMB cA md be tr wy, wMH cA md pl pr, poolE cA ad (bTb X) (fun _ => false) k]) [0, 6, 1, 2, 3, 4, 5, 7, 8, 9, 10, 11, 12, 13] rfl (by decide) rfl) rfl rfl (Nat.le_of_ble_eq_true rfl) ⟨by show kc + 0 ≤ 600000; omega, by show ks + 0 ≤ 7302250; omega⟩ hA dL_law_787 (fun v w hv => ?_)
    obtain ⟨hv, hw⟩ := hv
    rw [if_pos hc] at hv
    rw [if_pos hc] at hw
    subst hv
    subst hw
    refine g_perm (wfl [wC cA x (pg 0) (bt 0) (se 0) (qr 0) (hd 0) so, wS cA se tbf (bSp X) (bSg X), wP cA pg kd lo hi co pa rk nu ct sa ((nc : Nat) : Int) ((nr : Nat) : Int), wB cA bt (bBs X).1 (bBs X).2.1 (bBs X).2.2.1 (bBs X).2.2.2, wQ cA qr (tq 0) ql qc, wTS cA tq n1 S, wH cA hd pl pr pu z1, wMO cA md ((nc : Nat) : Int) ((nr : Nat) : Int) ke so bu bc pu qu fs cd un hb pf ef, wMP cA md kd lo hi co pa rk nu ct sa, wME cA md fr cs cn ck ch tb cr, wMX cA md fx fv sn, wMB cA md be tr wy, wMH cA md pl pr, poolE cA ad (bTb X) (fun _ => false) k]) (wf_split (n := 14) (C := [wS cA se tbf (bSp X) (bSg X), wP cA pg kd lo hi co pa rk nu ct sa ((nc : Nat) : Int) ((nr : Nat) : Int), wB cA bt (bBs X).1 (bBs X).2.1 (bBs X).2.2.1 (bBs X).2.2.2, wQ cA qr (tq 0) ql qc, wTS cA tq n1 S, wMO cA md ((nc : Nat) : Int) ((nr : Nat) : Int) ke so bu bc pu qu fs cd un hb pf ef, wMP cA md kd lo hi co pa rk nu ct sa, wME cA md fr cs cn ck ch tb cr, wMX cA md fx fv sn, wMB cA md be tr wy, wMH cA md pl pr, poolE cA ad (bTb X) (fun _ => false) k]) (R := [wC cA x (pg 0) (bt 0) (se 0) (qr 0) (hd 0) so, wH cA hd pl pr pu z1]) [1, 2, 3, 4, 5, 7, 8, 9, 10, 11, 12, 13, 0, 6] rfl (by decide) rfl).symm ?_
    refine g_eq (st' := [iv (qu)]) rfl rfl rfl ?_
    refine g_aload_n F 2 rfl rfl dL_law_790 ?_
    refine g_aload_n F 0 rfl rfl dL_law_791 ?_
    refine g_iload_n F 3 rfl rfl dL_law_792 ?_
    refine g_iconst F dL_law_793 ?_
    refine g_iadd F dL_law_794 ?_
    refine g_sld F hX hbl hbA (i + 1) (by omega) (by omega) (by omega) dL_law_795 ?_
    rw [← hz1e]
    refine g_callVP F (As := [iv z1]) (rest := [iv (qu)]) (wr := wfl [wC cA x (pg 0) (bt 0) (se 0) (qr 0) (hd 0) so, wS cA se tbf (bSp X) (bSg X), wP cA pg kd lo hi co pa rk nu ct sa ((nc : Nat) : Int) ((nr : Nat) : Int), wB cA bt (bBs X).1 (bBs X).2.1 (bBs X).2.2.1 (bBs X).2.2.2, wQ cA qr (tq 0) ql qc, wTS cA tq n1 S, wH cA hd pl pr pu z1, wMP cA md kd lo hi co pa rk nu ct sa, wME cA md fr cs cn ck ch tb cr, wMX cA md fx fv sn, wMB cA md be tr wy, wMH cA md pl pr, poolE cA ad (bTb X) (fun _ => false) k]) (kX7_pricesOver l D cA md nc nr ke so bu bc pu qu fs cd un hb pf ef z1 (by first | assumption | omega)) (cwV 1 F.2.2.2.2.1 gL_law_X7_pricesOver rfl rfl rfl (by decide +kernel) ⟨(Nat.le_of_ble_eq_true rfl), (Nat.le_of_ble_eq_true rfl)⟩) rfl rfl (q0 := 0) rfl (wf_split (n := 14) (C := [wMO cA md ((nc : Nat) : Int) ((nr : Nat) : Int) ke so bu bc pu qu fs cd un hb pf ef]) (R := [wC cA x (pg 0) (bt 0) (se 0) (qr 0) (hd 0) so, wS cA se tbf (bSp X) (bSg X), wP cA pg kd lo hi co pa rk nu ct sa ((nc : Nat) : Int) ((nr : Nat) : Int), wB cA bt (bBs X).1 (bBs X).2.1 (bBs X).2.2.1 (bBs X).2.2.2, wQ cA qr (tq 0) ql qc, wTS cA tq n1 S, wH cA hd pl pr pu z1, wMP cA md kd lo hi co pa rk nu ct sa, wME cA md fr cs cn ck ch tb cr, wMX cA md fx fv sn, wMB cA md be tr wy, wMH cA md pl pr, poolE cA ad (bTb X) (fun _ => false) k]) [7, 0, 1, 2, 3, 4, 5, 6, 8, 9, 10, 11, 12, 13] rfl (by decide) rfl) rfl rfl (Nat.le_of_ble_eq_true rfl) ⟨by show kc + 0 ≤ 600000; omega, by show ks + 0 ≤ 7302250; omega⟩ hA dL_law_796 (fun v w hv => ?_)
    obtain ⟨hv, hw⟩ := hv
    rw [if_pos hc] at hv
    rw [if_pos hc] at hw
    subst hv
    subst hw
    refine g_perm (wfl [wC cA x (pg 0) (bt 0) (se 0) (qr 0) (hd 0) so, wS cA se tbf (bSp X) (bSg X), wP cA pg kd lo hi co pa rk nu ct sa ((nc : Nat) : Int) ((nr : Nat) : Int), wB cA bt (bBs X).1 (bBs X).2.1 (bBs X).2.2.1 (bBs X).2.2.2, wQ cA qr (tq 0) ql qc, wTS cA tq n1 S, wH cA hd pl pr pu z1, wMO cA md ((nc : Nat) : Int) ((nr : Nat) : Int) ke so bu bc pu z1 fs cd un hb pf ef, wMP cA md kd lo hi co pa rk nu ct sa, wME cA md fr cs cn ck ch tb cr, wMX cA md fx fv sn, wMB cA md be tr wy, wMH cA md pl pr, poolE cA ad (bTb X) (fun _ => false) k]) (wf_split (n := 14) (C := [wC cA x (pg 0) (bt 0) (se 0) (qr 0) (hd 0) so, wS cA se tbf (bSp X) (bSg X), wP cA pg kd lo hi co pa rk nu ct sa ((nc : Nat) : Int) ((nr : Nat) : Int), wB cA bt (bBs X).1 (bBs X).2.1 (bBs X).2.2.1 (bBs X).2.2.2, wQ cA qr (tq 0) ql qc, wTS cA tq n1 S, wH cA hd pl pr pu z1, wMP cA md kd lo hi co pa rk nu ct sa, wME cA md fr cs cn ck ch tb cr, wMX cA md fx fv sn, wMB cA md be tr wy, wMH cA md pl pr, poolE cA ad (bTb X) (fun _ => false) k]) (R := [wMO cA md ((nc : Nat) : Int) ((nr : Nat) : Int) ke so bu bc pu z1 fs cd un hb pf ef]) [0, 1, 2, 3, 4, 5, 6, 8, 9, 10, 11, 12, 13, 7] rfl (by decide) rfl).symm ?_
    refine g_eq (st' := [iv (qu), iv (qu)]) rfl rfl rfl ?_
    refine g_ieq F (tgt := 887) (rfl) dL_law_799 (by decide) ?_
    refine g_widen (kc + 364) (ks + 8112) (by omega) (by omega) ?_
    exact hk kd lo hi co pa rk nu ct sa nc nr so X k ad tbf ql qc n1 S pl pr pu z1 ke bu bc fs cd un hb pf ef fr cs cn ck ch tb cr fx fv sn be tr wy (⟨hI.1, hI.2.1, hI.2.2.1, ⟨hpl, hpb, hpr, by omega⟩, hI.2.2.2.2⟩)
  · skip
    refine g_aload_n F 1 rfl rfl dL_law_781 ?_
    refine g_aload_n F 0 rfl rfl dL_law_782 ?_
    refine g_iload_n F 3 rfl rfl dL_law_783 ?_
    refine g_iconst F dL_law_784 ?_
    refine g_iadd F dL_law_785 ?_
    refine g_sld F hX hbl hbA (i + 1) (by omega) (by omega) (by omega) dL_law_786 ?_
    rw [← hz1e]
    refine g_callVP F (As := [iv z1]) (rest := []) (wr := wfl [wS cA se tbf (bSp X) (bSg X), wP cA pg kd lo hi co pa rk nu ct sa ((nc : Nat) : Int) ((nr : Nat) : Int), wB cA bt (bBs X).1 (bBs X).2.1 (bBs X).2.2.1 (bBs X).2.2.2, wQ cA qr (tq 0) ql qc, wTS cA tq n1 S, wMO cA md ((nc : Nat) : Int) ((nr : Nat) : Int) ke so bu bc pu qu fs cd un hb pf ef, wMP cA md kd lo hi co pa rk nu ct sa, wME cA md fr cs cn ck ch tb cr, wMX cA md fx fv sn, wMB cA md be tr wy, wMH cA md pl pr, poolE cA ad (bTb X) (fun _ => false) k]) (kX6_pricesOver l D cA x (pg 0) (bt 0) (se 0) (qr 0) so hd pl pr pu qu z1 (by first | assumption | omega)) (cwV 1 F.2.2.2.2.1 gL_law_X6_pricesOver rfl rfl rfl (by decide +kernel) ⟨(Nat.le_of_ble_eq_true rfl), (Nat.le_of_ble_eq_true rfl)⟩) rfl rfl (q0 := 0) rfl (wf_split (n := 14) (C := [wC cA x (pg 0) (bt 0) (se 0) (qr 0) (hd 0) so, wH cA hd pl pr pu qu]) (R := [wS cA se tbf (bSp X) (bSg X), wP cA pg kd lo hi co pa rk nu ct sa ((nc : Nat) : Int) ((nr : Nat) : Int), wB cA bt (bBs X).1 (bBs X).2.1 (bBs X).2.2.1 (bBs X).2.2.2, wQ cA qr (tq 0) ql qc, wTS cA tq n1 S, wMO cA md ((nc : Nat) : Int) ((nr : Nat) : Int) ke so bu bc pu qu fs cd un hb pf ef, wMP cA md kd lo hi co pa rk nu ct sa, wME cA md fr cs cn ck ch tb cr, wMX cA md fx fv sn, wMB cA md be tr wy, wMH cA md pl pr, poolE cA ad (bTb X) (fun _ => false) k]) [0, 6, 1, 2, 3, 4, 5, 7, 8, 9, 10, 11, 12, 13] rfl (by decide) rfl) rfl rfl (Nat.le_of_ble_eq_true rfl) ⟨by show kc + 0 ≤ 600000; omega, by show ks + 0 ≤ 7302250; omega⟩ hA dL_law_787 (fun v w hv => ?_)
    obtain ⟨hv, hw⟩ := hv
    rw [if_neg hc] at hv
    rw [if_neg hc] at hw
    subst hv
    subst hw
    refine g_perm (wfl [wC cA x (pg 0) (bt 0) (se 0) (qr 0) (hd 0) so, wS cA se tbf (bSp X) (bSg X), wP cA pg kd lo hi co pa rk nu ct sa ((nc : Nat) : Int) ((nr : Nat) : Int), wB cA bt (bBs X).1 (bBs X).2.1 (bBs X).2.2.1 (bBs X).2.2.2, wQ cA qr (tq 0) ql qc, wTS cA tq n1 S, wH cA hd pl pr pu qu, wMO cA md ((nc : Nat) : Int) ((nr : Nat) : Int) ke so bu bc pu qu fs cd un hb pf ef, wMP cA md kd lo hi co pa rk nu ct sa, wME cA md fr cs cn ck ch tb cr, wMX cA md fx fv sn, wMB cA md be tr wy, wMH cA md pl pr, poolE cA ad (bTb X) (fun _ => false) k]) (wf_split (n := 14) (C := [wS cA se tbf (bSp X) (bSg X), wP cA pg kd lo hi co pa rk nu ct sa ((nc : Nat) : Int) ((nr : Nat) : Int), wB cA bt (bBs X).1 (bBs X).2.1 (bBs X).2.2.1 (bBs X).2.2.2, wQ cA qr (tq 0) ql qc, wTS cA tq n1 S, wMO cA md ((nc : Nat) : Int) ((nr : Nat) : Int) ke so bu bc pu qu fs cd un hb pf ef, wMP cA md kd lo hi co pa rk nu ct sa, wME cA md fr cs cn ck ch tb cr, wMX cA md fx fv sn, wMB cA md be tr wy, wMH cA md pl pr, poolE cA ad (bTb X) (fun _ => false) k]) (R := [wC cA x (pg 0) (bt 0) (se 0) (qr 0) (hd 0) so, wH cA hd pl pr pu qu]) [1, 2, 3, 4, 5, 7, 8, 9, 10, 11, 12, 13, 0, 6] rfl (by decide) rfl).symm ?_
    refine g_eq (st' := [iv (-2000000001)]) rfl rfl rfl ?_
    refine g_aload_n F 2 rfl rfl dL_law_790 ?_
    refine g_aload_n F 0 rfl rfl dL_law_791 ?_
    refine g_iload_n F 3 rfl rfl dL_law_792 ?_
    refine g_iconst F dL_law_793 ?_
    refine g_iadd F dL_law_794 ?_
    refine g_sld F hX hbl hbA (i + 1) (by omega) (by omega) (by omega) dL_law_795 ?_
    rw [← hz1e]
    refine g_callVP F (As := [iv z1]) (rest := [iv (-2000000001)]) (wr := wfl [wC cA x (pg 0) (bt 0) (se 0) (qr 0) (hd 0) so, wS cA se tbf (bSp X) (bSg X), wP cA pg kd lo hi co pa rk nu ct sa ((nc : Nat) : Int) ((nr : Nat) : Int), wB cA bt (bBs X).1 (bBs X).2.1 (bBs X).2.2.1 (bBs X).2.2.2, wQ cA qr (tq 0) ql qc, wTS cA tq n1 S, wH cA hd pl pr pu qu, wMP cA md kd lo hi co pa rk nu ct sa, wME cA md fr cs cn ck ch tb cr, wMX cA md fx fv sn, wMB cA md be tr wy, wMH cA md pl pr, poolE cA ad (bTb X) (fun _ => false) k]) (kX7_pricesOver l D cA md nc nr ke so bu bc pu qu fs cd un hb pf ef z1 (by first | assumption | omega)) (cwV 1 F.2.2.2.2.1 gL_law_X7_pricesOver rfl rfl rfl (by decide +kernel) ⟨(Nat.le_of_ble_eq_true rfl), (Nat.le_of_ble_eq_true rfl)⟩) rfl rfl (q0 := 0) rfl (wf_split (n := 14) (C := [wMO cA md ((nc : Nat) : Int) ((nr : Nat) : Int) ke so bu bc pu qu fs cd un hb pf ef]) (R := [wC cA x (pg 0) (bt 0) (se 0) (qr 0) (hd 0) so, wS cA se tbf (bSp X) (bSg X), wP cA pg kd lo hi co pa rk nu ct sa ((nc : Nat) : Int) ((nr : Nat) : Int), wB cA bt (bBs X).1 (bBs X).2.1 (bBs X).2.2.1 (bBs X).2.2.2, wQ cA qr (tq 0) ql qc, wTS cA tq n1 S, wH cA hd pl pr pu qu, wMP cA md kd lo hi co pa rk nu ct sa, wME cA md fr cs cn ck ch tb cr, wMX cA md fx fv sn, wMB cA md be tr wy, wMH cA md pl pr, poolE cA ad (bTb X) (fun _ => false) k]) [7, 0, 1, 2, 3, 4, 5, 6, 8, 9, 10, 11, 12, 13] rfl (by decide) rfl) rfl rfl (Nat.le_of_ble_eq_true rfl) ⟨by show kc + 0 ≤ 600000; omega, by show ks + 0 ≤ 7302250; omega⟩ hA dL_law_796 (fun v w hv => ?_)
    obtain ⟨hv, hw⟩ := hv
    rw [if_neg hc] at hv
    rw [if_neg hc] at hw
    subst hv
    subst hw
    refine g_perm (wfl [wC cA x (pg 0) (bt 0) (se 0) (qr 0) (hd 0) so, wS cA se tbf (bSp X) (bSg X), wP cA pg kd lo hi co pa rk nu ct sa ((nc : Nat) : Int) ((nr : Nat) : Int), wB cA bt (bBs X).1 (bBs X).2.1 (bBs X).2.2.1 (bBs X).2.2.2, wQ cA qr (tq 0) ql qc, wTS cA tq n1 S, wH cA hd pl pr pu qu, wMO cA md ((nc : Nat) : Int) ((nr : Nat) : Int) ke so bu bc pu qu fs cd un hb pf ef, wMP cA md kd lo hi co pa rk nu ct sa, wME cA md fr cs cn ck ch tb cr, wMX cA md fx fv sn, wMB cA md be tr wy, wMH cA md pl pr, poolE cA ad (bTb X) (fun _ => false) k]) (wf_split (n := 14) (C := [wC cA x (pg 0) (bt 0) (se 0) (qr 0) (hd 0) so, wS cA se tbf (bSp X) (bSg X), wP cA pg kd lo hi co pa rk nu ct sa ((nc : Nat) : Int) ((nr : Nat) : Int), wB cA bt (bBs X).1 (bBs X).2.1 (bBs X).2.2.1 (bBs X).2.2.2, wQ cA qr (tq 0) ql qc, wTS cA tq n1 S, wH cA hd pl pr pu qu, wMP cA md kd lo hi co pa rk nu ct sa, wME cA md fr cs cn ck ch tb cr, wMX cA md fx fv sn, wMB cA md be tr wy, wMH cA md pl pr, poolE cA ad (bTb X) (fun _ => false) k]) (R := [wMO cA md ((nc : Nat) : Int) ((nr : Nat) : Int) ke so bu bc pu qu fs cd un hb pf ef]) [0, 1, 2, 3, 4, 5, 6, 8, 9, 10, 11, 12, 13, 7] rfl (by decide) rfl).symm ?_
    refine g_eq (st' := [iv (-2000000001), iv (-2000000001)]) rfl rfl rfl ?_
    refine g_ieq F (tgt := 887) (rfl) dL_law_799 (by decide) ?_
    refine g_widen (kc + 364) (ks + 8112) (by omega) (by omega) ?_
    exact hk kd lo hi co pa rk nu ct sa nc nr so X k ad tbf ql qc n1 S pl pr pu qu ke bu bc fs cd un hb pf ef fr cs cn ck ch tb cr fx fv sn be tr wy (hI)
