set_option maxHeartbeats 4000000 in
set_option maxRecDepth 100000 in
theorem lc_isOf {p : Program} {l : Launch} {e : Env} {s : State} {m : MethodId} {below : List Frame} {meth : Method} {c : Code} {Q : State → Prop} {D : va_G} {cA : Nat → ClassId} {A : Nat → Prop} {sb Ln : Nat} {xs : Nat → Int32} {x se pg bt qr tq hd md : Nat → Nat} (F : Fx p s m #[Value.ref sb] meth c cL_law 4 RL wsL_law ret D cA) (hA : ∀ q, s.heap.size ≤ q → A q) (hX : va_X sb Ln xs s s.heap) (hbl : sb < s.heap.size) (hbA : ¬ A sb) (hL : Ln ≤ 2048) (i : Nat) (hi : i + 4 ≤ Ln) (kc ks : Nat) (hkc : kc + 364 ≤ 600000 ∧ ks + 8112 ≤ 7302250) (hk : lwN p l e s m sb below meth c Q D cA A x se pg bt qr tq hd md i (kc + 364) (ks + 8112) 887) : lwN p l e s m sb below meth c Q D cA A x se pg bt qr tq hd md i kc ks 442 := by
  intro kd lo hi co pa rk nu ct sa nc nr so X k ad tbf ql qc n1 S pl pr pu qu ke bu bc fs cd un hb pf ef fr cs cn ck ch tb cr fx fv sn be tr wy hI
  obtain ⟨hpr0, ⟨hS, hbd, hbo, hk51, ht1, ht2, h00⟩, ⟨hSq, hzq⟩, ⟨hpl, hpb, hpr, hqb⟩, ⟨hbm, hke⟩, hrel⟩ := id hI
  obtain ⟨hP, hR, hco, hpa5, hpaN, hle, zs, zc⟩ := id hpr0
  have qnc := hP.1
  have qkd := hP.2.1
  have qlo := hP.2.2.1
  have qhi : ∀ j, hi j = -2000000005 ∨ (-20 ≤ hi j ∧ hi j ≤ 20) := hP.2.2.2.1
  have qnr := hR.1
  have qrk := hR.2.1
  have qnu := hR.2.2.1
  have qnu2 : ∀ j, -198 ≤ nu j ∧ nu j ≤ 198 := fun j => by have := qnu j; omega
  have qsa := hR.2.2.2.1
  have qct := hR.2.2.2.2
  have hbb := hbd.1
  have hbc9 := hbd.2.1
  have hbv := hbd.2.2
  have hbu9 : 0 < bu ∧ bu ≤ 8000000 := hbm.1
  have hbcm : -200000000000 ≤ bc ∧ bc ≤ 200000000000 := hbm.2.1
  have hbem : ∀ j, -200000000000 ≤ be j ∧ be j ≤ 200000000000 := hbm.2.2
  have hpb1 : 1 ≤ pu ∧ pu ≤ 2000000000 := by omega
  have hV := @IM_P D s A
  have hz1 : -2147483648 ≤ (xs (i + 1)).toInt ∧ (xs (i + 1)).toInt ≤ 2147483647 := i32_rng _
  have hz2 : -2147483648 ≤ (xs (i + 2)).toInt ∧ (xs (i + 2)).toInt ≤ 2147483647 := i32_rng _
  have hz3 : -2147483648 ≤ (xs (i + 3)).toInt ∧ (xs (i + 3)).toInt ≤ 2147483647 := i32_rng _
  obtain ⟨z1, hz1e⟩ : ∃ z, z = (xs (i + 1)).toInt := ⟨_, rfl⟩
  obtain ⟨z2, hz2e⟩ : ∃ z, z = (xs (i + 2)).toInt := ⟨_, rfl⟩
  obtain ⟨z3, hz3e⟩ : ∃ z, z = (xs (i + 3)).toInt := ⟨_, rfl⟩
  rw [← hz1e] at hz1
  rw [← hz2e] at hz2
  rw [← hz3e] at hz3
  refine g_aload_n F 1 rfl rfl dL_law_442 ?_
  refine g_aload_n F 0 rfl rfl dL_law_443 ?_
  refine g_iload_n F 3 rfl rfl dL_law_444 ?_
  refine g_iconst F dL_law_445 ?_
  refine g_iadd F dL_law_446 ?_
  refine g_sld F hX hbl hbA (i + 1) (by omega) (by omega) (by omega) dL_law_447 ?_
  rw [← hz1e]
  refine g_aload_n F 0 rfl rfl dL_law_448 ?_
  refine g_iload_n F 3 rfl rfl dL_law_449 ?_
  refine g_iconst F dL_law_450 ?_
  refine g_iadd F dL_law_451 ?_
  refine g_sld F hX hbl hbA (i + 2) (by omega) (by omega) (by omega) dL_law_452 ?_
  rw [← hz2e]
  refine g_callRV F hV (As := [iv z1, iv z2]) (rest := []) (kX6_isOf l D cA x (bt 0) (se 0) (qr 0) (hd 0) so pg kd lo hi co pa rk nu ct sa nc nr z1 z2 (by first | assumption | omega) (by first | assumption | omega) (by first | assumption | omega) (by first | assumption | omega) (by first | assumption | omega)) (cwV 2 F.2.2.2.2.1 gL_law_X6_isOf rfl rfl rfl (by decide +kernel) ⟨(Nat.le_of_ble_eq_true rfl), (Nat.le_of_ble_eq_true rfl)⟩) rfl rfl (q0 := 0) rfl [0, 5, 6, 7, 8, 9, 10, 11, 12, 13, 14] rfl rfl rfl (Nat.le_of_ble_eq_true rfl) ⟨by show kc ≤ 600000; omega, by show ks ≤ 7302250; omega⟩ dL_law_453 (fun v hv => ?_)
  subst hv
  refine g_eq (st' := [iv (if (0 ≤ z1 ∧ z1 < (nc : Int)) ∧ 0 ≤ z2 ∧ z2 ≤ 2 then (if z2 ≤ kd z1.toNat then 1 else 0) else -2000000001)]) rfl rfl rfl ?_
  refine g_aload_n F 2 rfl rfl dL_law_456 ?_
  refine g_aload_n F 0 rfl rfl dL_law_457 ?_
  refine g_iload_n F 3 rfl rfl dL_law_458 ?_
  refine g_iconst F dL_law_459 ?_
  refine g_iadd F dL_law_460 ?_
  refine g_sld F hX hbl hbA (i + 1) (by omega) (by omega) (by omega) dL_law_461 ?_
  rw [← hz1e]
  refine g_aload_n F 0 rfl rfl dL_law_462 ?_
  refine g_iload_n F 3 rfl rfl dL_law_463 ?_
  refine g_iconst F dL_law_464 ?_
  refine g_iadd F dL_law_465 ?_
  refine g_sld F hX hbl hbA (i + 2) (by omega) (by omega) (by omega) dL_law_466 ?_
  rw [← hz2e]
  refine g_callRV F hV (As := [iv z1, iv z2]) (rest := [iv (if (0 ≤ z1 ∧ z1 < (nc : Int)) ∧ 0 ≤ z2 ∧ z2 ≤ 2 then (if z2 ≤ kd z1.toNat then 1 else 0) else -2000000001)]) (kX7_isOf l D cA md nc nr ke so bu bc pu qu fs cd un hb pf ef kd lo hi co pa rk nu ct sa z1 z2 (by first | assumption | omega) (by first | assumption | omega) (by first | assumption | omega) (by first | assumption | omega) (by first | assumption | omega)) (cwV 2 F.2.2.2.2.1 gL_law_X7_isOf rfl rfl rfl (by decide +kernel) ⟨(Nat.le_of_ble_eq_true rfl), (Nat.le_of_ble_eq_true rfl)⟩) rfl rfl (q0 := 0) rfl [30, 31, 32, 33, 34, 35, 36, 37, 38, 39] rfl rfl rfl (Nat.le_of_ble_eq_true rfl) ⟨by show kc ≤ 600000; omega, by show ks ≤ 7302250; omega⟩ dL_law_467 (fun v hv => ?_)
  subst hv
  refine g_eq (st' := [iv (if (0 ≤ z1 ∧ z1 < (nc : Int)) ∧ 0 ≤ z2 ∧ z2 ≤ 2 then (if z2 ≤ kd z1.toNat then 1 else 0) else -2000000001), iv (if (0 ≤ z1 ∧ z1 < (nc : Int)) ∧ 0 ≤ z2 ∧ z2 ≤ 2 then (if z2 ≤ kd z1.toNat then 1 else 0) else -2000000001)]) rfl rfl rfl ?_
  refine g_ieq F (tgt := 887) (rfl) dL_law_470 (by decide) ?_
  refine g_widen (kc + 364) (ks + 8112) (by omega) (by omega) ?_
  exact hk kd lo hi co pa rk nu ct sa nc nr so X k ad tbf ql qc n1 S pl pr pu qu ke bu bc fs cd un hb pf ef fr cs cn ck ch tb cr fx fv sn be tr wy (hI)

set_option maxHeartbeats 4000000 in
set_option maxRecDepth 100000 in
theorem lc_about {p : Program} {l : Launch} {e : Env} {s : State} {m : MethodId} {below : List Frame} {meth : Method} {c : Code} {Q : State → Prop} {D : va_G} {cA : Nat → ClassId} {A : Nat → Prop} {sb Ln : Nat} {xs : Nat → Int32} {x se pg bt qr tq hd md : Nat → Nat} (F : Fx p s m #[Value.ref sb] meth c cL_law 4 RL wsL_law ret D cA) (hA : ∀ q, s.heap.size ≤ q → A q) (hX : va_X sb Ln xs s s.heap) (hbl : sb < s.heap.size) (hbA : ¬ A sb) (hL : Ln ≤ 2048) (i : Nat) (hi : i + 4 ≤ Ln) (kc ks : Nat) (hkc : kc + 364 ≤ 600000 ∧ ks + 8112 ≤ 7302250) (hk : lwN p l e s m sb below meth c Q D cA A x se pg bt qr tq hd md i (kc + 364) (ks + 8112) 887) : lwN p l e s m sb below meth c Q D cA A x se pg bt qr tq hd md i kc ks 475 := by
  intro kd lo hi co pa rk nu ct sa nc nr so X k ad tbf ql qc n1 S pl pr pu qu ke bu bc fs cd un hb pf ef fr cs cn ck ch tb cr fx fv sn be tr wy hI
  obtain ⟨hpr0, ⟨hS, hbd, hbo, hk51, ht1, ht2, h00⟩, ⟨hSq, hzq⟩, ⟨hpl, hpb, hpr, hqb⟩, ⟨hbm, hke⟩, hrel⟩ := id hI
  obtain ⟨hP, hR, hco, hpa5, hpaN, hle, zs, zc⟩ := id hpr0
  have qnc := hP.1
  have qkd := hP.2.1
  have qlo := hP.2.2.1
  have qhi : ∀ j, hi j = -2000000005 ∨ (-20 ≤ hi j ∧ hi j ≤ 20) := hP.2.2.2.1
  have qnr := hR.1
  have qrk := hR.2.1
  have qnu := hR.2.2.1
  have qnu2 : ∀ j, -198 ≤ nu j ∧ nu j ≤ 198 := fun j => by have := qnu j; omega
  have qsa := hR.2.2.2.1
  have qct := hR.2.2.2.2
  have hbb := hbd.1
  have hbc9 := hbd.2.1
  have hbv := hbd.2.2
  have hbu9 : 0 < bu ∧ bu ≤ 8000000 := hbm.1
  have hbcm : -200000000000 ≤ bc ∧ bc ≤ 200000000000 := hbm.2.1
  have hbem : ∀ j, -200000000000 ≤ be j ∧ be j ≤ 200000000000 := hbm.2.2
  have hpb1 : 1 ≤ pu ∧ pu ≤ 2000000000 := by omega
  have hV := @IM_P D s A
  have hz1 : -2147483648 ≤ (xs (i + 1)).toInt ∧ (xs (i + 1)).toInt ≤ 2147483647 := i32_rng _
  have hz2 : -2147483648 ≤ (xs (i + 2)).toInt ∧ (xs (i + 2)).toInt ≤ 2147483647 := i32_rng _
  have hz3 : -2147483648 ≤ (xs (i + 3)).toInt ∧ (xs (i + 3)).toInt ≤ 2147483647 := i32_rng _
  obtain ⟨z1, hz1e⟩ : ∃ z, z = (xs (i + 1)).toInt := ⟨_, rfl⟩
  obtain ⟨z2, hz2e⟩ : ∃ z, z = (xs (i + 2)).toInt := ⟨_, rfl⟩
  obtain ⟨z3, hz3e⟩ : ∃ z, z = (xs (i + 3)).toInt := ⟨_, rfl⟩
  rw [← hz1e] at hz1
  rw [← hz2e] at hz2
  rw [← hz3e] at hz3
  refine g_aload_n F 1 rfl rfl dL_law_475 ?_
  refine g_aload_n F 0 rfl rfl dL_law_476 ?_
  refine g_iload_n F 3 rfl rfl dL_law_477 ?_
  refine g_iconst F dL_law_478 ?_
  refine g_iadd F dL_law_479 ?_
  refine g_sld F hX hbl hbA (i + 1) (by omega) (by omega) (by omega) dL_law_480 ?_
  rw [← hz1e]
  refine g_aload_n F 0 rfl rfl dL_law_481 ?_
  refine g_iload_n F 3 rfl rfl dL_law_482 ?_
  refine g_iconst F dL_law_483 ?_
  refine g_iadd F dL_law_484 ?_
  refine g_sld F hX hbl hbA (i + 2) (by omega) (by omega) (by omega) dL_law_485 ?_
  rw [← hz2e]
  refine g_callRV F hV (As := [iv z1, iv z2]) (rest := []) (kX6_about l D cA x (bt 0) (se 0) (qr 0) (hd 0) so pg kd lo hi co pa rk nu ct sa nc nr z1 z2 (by first | assumption | omega) (by first | assumption | omega) (by first | assumption | omega) (by first | assumption | omega) (by first | assumption | omega)) (cwV 2 F.2.2.2.2.1 gL_law_X6_about rfl rfl rfl (by decide +kernel) ⟨(Nat.le_of_ble_eq_true rfl), (Nat.le_of_ble_eq_true rfl)⟩) rfl rfl (q0 := 0) rfl [0, 5, 6, 7, 8, 9, 10, 11, 12, 13, 14] rfl rfl rfl (Nat.le_of_ble_eq_true rfl) ⟨by show kc ≤ 600000; omega, by show ks ≤ 7302250; omega⟩ dL_law_486 (fun v hv => ?_)
  subst hv
  refine g_eq (st' := [iv (if 0 ≤ z1 ∧ z1 < (nc : Int) then (if z2 = 0 then lo z1.toNat else if z2 = 1 then hi z1.toNat else if z2 = 2 then co z1.toNat else if z2 = 3 then pa z1.toNat else -2000000001) else -2000000001)]) rfl rfl rfl ?_
  refine g_aload_n F 2 rfl rfl dL_law_489 ?_
  refine g_aload_n F 0 rfl rfl dL_law_490 ?_
  refine g_iload_n F 3 rfl rfl dL_law_491 ?_
  refine g_iconst F dL_law_492 ?_
  refine g_iadd F dL_law_493 ?_
  refine g_sld F hX hbl hbA (i + 1) (by omega) (by omega) (by omega) dL_law_494 ?_
  rw [← hz1e]
  refine g_aload_n F 0 rfl rfl dL_law_495 ?_
  refine g_iload_n F 3 rfl rfl dL_law_496 ?_
  refine g_iconst F dL_law_497 ?_
  refine g_iadd F dL_law_498 ?_
  refine g_sld F hX hbl hbA (i + 2) (by omega) (by omega) (by omega) dL_law_499 ?_
  rw [← hz2e]
  refine g_callRV F hV (As := [iv z1, iv z2]) (rest := [iv (if 0 ≤ z1 ∧ z1 < (nc : Int) then (if z2 = 0 then lo z1.toNat else if z2 = 1 then hi z1.toNat else if z2 = 2 then co z1.toNat else if z2 = 3 then pa z1.toNat else -2000000001) else -2000000001)]) (kX7_about l D cA md nc nr ke so bu bc pu qu fs cd un hb pf ef kd lo hi co pa rk nu ct sa z1 z2 (by first | assumption | omega) (by first | assumption | omega) (by first | assumption | omega) (by first | assumption | omega) (by first | assumption | omega)) (cwV 2 F.2.2.2.2.1 gL_law_X7_about rfl rfl rfl (by decide +kernel) ⟨(Nat.le_of_ble_eq_true rfl), (Nat.le_of_ble_eq_true rfl)⟩) rfl rfl (q0 := 0) rfl [30, 31, 32, 33, 34, 35, 36, 37, 38, 39] rfl rfl rfl (Nat.le_of_ble_eq_true rfl) ⟨by show kc ≤ 600000; omega, by show ks ≤ 7302250; omega⟩ dL_law_500 (fun v hv => ?_)
  subst hv
  refine g_eq (st' := [iv (if 0 ≤ z1 ∧ z1 < (nc : Int) then (if z2 = 0 then lo z1.toNat else if z2 = 1 then hi z1.toNat else if z2 = 2 then co z1.toNat else if z2 = 3 then pa z1.toNat else -2000000001) else -2000000001), iv (if 0 ≤ z1 ∧ z1 < (nc : Int) then (if z2 = 0 then lo z1.toNat else if z2 = 1 then hi z1.toNat else if z2 = 2 then co z1.toNat else if z2 = 3 then pa z1.toNat else -2000000001) else -2000000001)]) rfl rfl rfl ?_
  refine g_ieq F (tgt := 887) (rfl) dL_law_503 (by decide) ?_
  refine g_widen (kc + 364) (ks + 8112) (by omega) (by omega) ?_
  exact hk kd lo hi co pa rk nu ct sa nc nr so X k ad tbf ql qc n1 S pl pr pu qu ke bu bc fs cd un hb pf ef fr cs cn ck ch tb cr fx fv sn be tr wy (hI)

set_option maxHeartbeats 4000000 in
set_option maxRecDepth 100000 in
theorem lc_told {p : Program} {l : Launch} {e : Env} {s : State} {m : MethodId} {below : List Frame} {meth : Method} {c : Code} {Q : State → Prop} {D : va_G} {cA : Nat → ClassId} {A : Nat → Prop} {sb Ln : Nat} {xs : Nat → Int32} {x se pg bt qr tq hd md : Nat → Nat} (F : Fx p s m #[Value.ref sb] meth c cL_law 4 RL wsL_law ret D cA) (hA : ∀ q, s.heap.size ≤ q → A q) (hX : va_X sb Ln xs s s.heap) (hbl : sb < s.heap.size) (hbA : ¬ A sb) (hL : Ln ≤ 2048) (i : Nat) (hi : i + 4 ≤ Ln) (kc ks : Nat) (hkc : kc + 364 ≤ 600000 ∧ ks + 8112 ≤ 7302250) (hk : lwN p l e s m sb below meth c Q D cA A x se pg bt qr tq hd md i (kc + 364) (ks + 8112) 887) : lwN p l e s m sb below meth c Q D cA A x se pg bt qr tq hd md i kc ks 508 := by
  intro kd lo hi co pa rk nu ct sa nc nr so X k ad tbf ql qc n1 S pl pr pu qu ke bu bc fs cd un hb pf ef fr cs cn ck ch tb cr fx fv sn be tr wy hI
  obtain ⟨hpr0, ⟨hS, hbd, hbo, hk51, ht1, ht2, h00⟩, ⟨hSq, hzq⟩, ⟨hpl, hpb, hpr, hqb⟩, ⟨hbm, hke⟩, hrel⟩ := id hI
  obtain ⟨hP, hR, hco, hpa5, hpaN, hle, zs, zc⟩ := id hpr0
  have qnc := hP.1
  have qkd := hP.2.1
  have qlo := hP.2.2.1
  have qhi : ∀ j, hi j = -2000000005 ∨ (-20 ≤ hi j ∧ hi j ≤ 20) := hP.2.2.2.1
  have qnr := hR.1
  have qrk := hR.2.1
  have qnu := hR.2.2.1
  have qnu2 : ∀ j, -198 ≤ nu j ∧ nu j ≤ 198 := fun j => by have := qnu j; omega
  have qsa := hR.2.2.2.1
  have qct := hR.2.2.2.2
  have hbb := hbd.1
  have hbc9 := hbd.2.1
  have hbv := hbd.2.2
  have hbu9 : 0 < bu ∧ bu ≤ 8000000 := hbm.1
  have hbcm : -200000000000 ≤ bc ∧ bc ≤ 200000000000 := hbm.2.1
  have hbem : ∀ j, -200000000000 ≤ be j ∧ be j ≤ 200000000000 := hbm.2.2
  have hpb1 : 1 ≤ pu ∧ pu ≤ 2000000000 := by omega
  have hV := @IM_P D s A
  have hz1 : -2147483648 ≤ (xs (i + 1)).toInt ∧ (xs (i + 1)).toInt ≤ 2147483647 := i32_rng _
  have hz2 : -2147483648 ≤ (xs (i + 2)).toInt ∧ (xs (i + 2)).toInt ≤ 2147483647 := i32_rng _
  have hz3 : -2147483648 ≤ (xs (i + 3)).toInt ∧ (xs (i + 3)).toInt ≤ 2147483647 := i32_rng _
  obtain ⟨z1, hz1e⟩ : ∃ z, z = (xs (i + 1)).toInt := ⟨_, rfl⟩
  obtain ⟨z2, hz2e⟩ : ∃ z, z = (xs (i + 2)).toInt := ⟨_, rfl⟩
  obtain ⟨z3, hz3e⟩ : ∃ z, z = (xs (i + 3)).toInt := ⟨_, rfl⟩
  rw [← hz1e] at hz1
  rw [← hz2e] at hz2
  rw [← hz3e] at hz3
  refine g_aload_n F 1 rfl rfl dL_law_508 ?_
  refine g_aload_n F 0 rfl rfl dL_law_509 ?_
  refine g_iload_n F 3 rfl rfl dL_law_510 ?_
  refine g_iconst F dL_law_511 ?_
  refine g_iadd F dL_law_512 ?_
  refine g_sld F hX hbl hbA (i + 1) (by omega) (by omega) (by omega) dL_law_513 ?_
  rw [← hz1e]
  refine g_aload_n F 0 rfl rfl dL_law_514 ?_
  refine g_iload_n F 3 rfl rfl dL_law_515 ?_
  refine g_iconst F dL_law_516 ?_
  refine g_iadd F dL_law_517 ?_
  refine g_sld F hX hbl hbA (i + 2) (by omega) (by omega) (by omega) dL_law_518 ?_
  rw [← hz2e]
  refine g_callRV F hV (As := [iv z1, iv z2]) (rest := []) (kX6_told l D cA x (bt 0) (se 0) (qr 0) (hd 0) so pg kd lo hi co pa rk nu ct sa nc nr z1 z2 (by first | assumption | omega) (by first | assumption | omega) (by first | assumption | omega) (by first | assumption | omega) (by first | assumption | omega)) (cwV 2 F.2.2.2.2.1 gL_law_X6_told rfl rfl rfl (by decide +kernel) ⟨(Nat.le_of_ble_eq_true rfl), (Nat.le_of_ble_eq_true rfl)⟩) rfl rfl (q0 := 0) rfl [0, 5, 6, 7, 8, 9, 10, 11, 12, 13, 14] rfl rfl rfl (Nat.le_of_ble_eq_true rfl) ⟨by show kc ≤ 600000; omega, by show ks ≤ 7302250; omega⟩ dL_law_519 (fun v hv => ?_)
  subst hv
  refine g_eq (st' := [iv (if 0 ≤ z1 ∧ z1 < (nr : Int) then (if z2 = 0 then rk z1.toNat else if z2 = 1 then nu z1.toNat else if z2 = 2 then ct z1.toNat else if 2 < z2 ∧ z2 - 3 < (nc : Int) then sa (z1.toNat * 5 + (z2 - 3).toNat) else -2000000001) else -2000000001)]) rfl rfl rfl ?_
  refine g_aload_n F 2 rfl rfl dL_law_522 ?_
  refine g_aload_n F 0 rfl rfl dL_law_523 ?_
  refine g_iload_n F 3 rfl rfl dL_law_524 ?_
  refine g_iconst F dL_law_525 ?_
  refine g_iadd F dL_law_526 ?_
  refine g_sld F hX hbl hbA (i + 1) (by omega) (by omega) (by omega) dL_law_527 ?_
  rw [← hz1e]
  refine g_aload_n F 0 rfl rfl dL_law_528 ?_
  refine g_iload_n F 3 rfl rfl dL_law_529 ?_
  refine g_iconst F dL_law_530 ?_
  refine g_iadd F dL_law_531 ?_
  refine g_sld F hX hbl hbA (i + 2) (by omega) (by omega) (by omega) dL_law_532 ?_
  rw [← hz2e]
  refine g_callRV F hV (As := [iv z1, iv z2]) (rest := [iv (if 0 ≤ z1 ∧ z1 < (nr : Int) then (if z2 = 0 then rk z1.toNat else if z2 = 1 then nu z1.toNat else if z2 = 2 then ct z1.toNat else if 2 < z2 ∧ z2 - 3 < (nc : Int) then sa (z1.toNat * 5 + (z2 - 3).toNat) else -2000000001) else -2000000001)]) (kX7_told l D cA md nc nr ke so bu bc pu qu fs cd un hb pf ef kd lo hi co pa rk nu ct sa z1 z2 (by first | assumption | omega) (by first | assumption | omega) (by first | assumption | omega) (by first | assumption | omega) (by first | assumption | omega) (by first | assumption | omega)) (cwV 2 F.2.2.2.2.1 gL_law_X7_told rfl rfl rfl (by decide +kernel) ⟨(Nat.le_of_ble_eq_true rfl), (Nat.le_of_ble_eq_true rfl)⟩) rfl rfl (q0 := 0) rfl [30, 31, 32, 33, 34, 35, 36, 37, 38, 39] rfl rfl rfl (Nat.le_of_ble_eq_true rfl) ⟨by show kc ≤ 600000; omega, by show ks ≤ 7302250; omega⟩ dL_law_533 (fun v hv => ?_)
  subst hv
  refine g_eq (st' := [iv (if 0 ≤ z1 ∧ z1 < (nr : Int) then (if z2 = 0 then rk z1.toNat else if z2 = 1 then nu z1.toNat else if z2 = 2 then ct z1.toNat else if 2 < z2 ∧ z2 - 3 < (nc : Int) then sa (z1.toNat * 5 + (z2 - 3).toNat) else -2000000001) else -2000000001), iv (if 0 ≤ z1 ∧ z1 < (nr : Int) then (if z2 = 0 then rk z1.toNat else if z2 = 1 then nu z1.toNat else if z2 = 2 then ct z1.toNat else if 2 < z2 ∧ z2 - 3 < (nc : Int) then sa (z1.toNat * 5 + (z2 - 3).toNat) else -2000000001) else -2000000001)]) rfl rfl rfl ?_
  refine g_ieq F (tgt := 887) (rfl) dL_law_536 (by decide) ?_
  refine g_widen (kc + 364) (ks + 8112) (by omega) (by omega) ?_
  exact hk kd lo hi co pa rk nu ct sa nc nr so X k ad tbf ql qc n1 S pl pr pu qu ke bu bc fs cd un hb pf ef fr cs cn ck ch tb cr fx fv sn be tr wy (hI)

set_option maxHeartbeats 4000000 in
set_option maxRecDepth 100000 in
theorem lc_check {p : Program} {l : Launch} {e : Env} {s : State} {m : MethodId} {below : List Frame} {meth : Method} {c : Code} {Q : State → Prop} {D : va_G} {cA : Nat → ClassId} {A : Nat → Prop} {sb Ln : Nat} {xs : Nat → Int32} {x se pg bt qr tq hd md : Nat → Nat} (F : Fx p s m #[Value.ref sb] meth c cL_law 4 RL wsL_law ret D cA) (hA : ∀ q, s.heap.size ≤ q → A q) (hX : va_X sb Ln xs s s.heap) (hbl : sb < s.heap.size) (hbA : ¬ A sb) (hL : Ln ≤ 2048) (i : Nat) (hi : i + 4 ≤ Ln) (kc ks : Nat) (hkc : kc + 364 ≤ 600000 ∧ ks + 8112 ≤ 7302250) (hk : lwN p l e s m sb below meth c Q D cA A x se pg bt qr tq hd md i (kc + 364) (ks + 8112) 887) : lwN p l e s m sb below meth c Q D cA A x se pg bt qr tq hd md i kc ks 804 := by
  intro kd lo hi co pa rk nu ct sa nc nr so X k ad tbf ql qc n1 S pl pr pu qu ke bu bc fs cd un hb pf ef fr cs cn ck ch tb cr fx fv sn be tr wy hI
  obtain ⟨hpr0, ⟨hS, hbd, hbo, hk51, ht1, ht2, h00⟩, ⟨hSq, hzq⟩, ⟨hpl, hpb, hpr, hqb⟩, ⟨hbm, hke⟩, hrel⟩ := id hI
  obtain ⟨hP, hR, hco, hpa5, hpaN, hle, zs, zc⟩ := id hpr0
  have qnc := hP.1
  have qkd := hP.2.1
  have qlo := hP.2.2.1
  have qhi : ∀ j, hi j = -2000000005 ∨ (-20 ≤ hi j ∧ hi j ≤ 20) := hP.2.2.2.1
  have qnr := hR.1
  have qrk := hR.2.1
  have qnu := hR.2.2.1
  have qnu2 : ∀ j, -198 ≤ nu j ∧ nu j ≤ 198 := fun j => by have := qnu j; omega
  have qsa := hR.2.2.2.1
  have qct := hR.2.2.2.2
  have hbb := hbd.1
  have hbc9 := hbd.2.1
  have hbv := hbd.2.2
  have hbu9 : 0 < bu ∧ bu ≤ 8000000 := hbm.1
  have hbcm : -200000000000 ≤ bc ∧ bc ≤ 200000000000 := hbm.2.1
  have hbem : ∀ j, -200000000000 ≤ be j ∧ be j ≤ 200000000000 := hbm.2.2
  have hpb1 : 1 ≤ pu ∧ pu ≤ 2000000000 := by omega
  have hV := @IM_P D s A
  have hz1 : -2147483648 ≤ (xs (i + 1)).toInt ∧ (xs (i + 1)).toInt ≤ 2147483647 := i32_rng _
  have hz2 : -2147483648 ≤ (xs (i + 2)).toInt ∧ (xs (i + 2)).toInt ≤ 2147483647 := i32_rng _
  have hz3 : -2147483648 ≤ (xs (i + 3)).toInt ∧ (xs (i + 3)).toInt ≤ 2147483647 := i32_rng _
  obtain ⟨z1, hz1e⟩ : ∃ z, z = (xs (i + 1)).toInt := ⟨_, rfl⟩
  obtain ⟨z2, hz2e⟩ : ∃ z, z = (xs (i + 2)).toInt := ⟨_, rfl⟩
  obtain ⟨z3, hz3e⟩ : ∃ z, z = (xs (i + 3)).toInt := ⟨_, rfl⟩
  rw [← hz1e] at hz1
  rw [← hz2e] at hz2
  rw [← hz3e] at hz3
  refine g_aload_n F 1 rfl rfl dL_law_804 ?_
  refine g_callRV F hV (As := []) (rest := []) (kX6_check l D cA x (bt 0) (se 0) (qr 0) so hd pl pr pu qu pg kd lo hi co pa rk nu ct sa nc nr (by first | assumption | omega) (by first | assumption | omega) (by first | assumption | omega) (by first | assumption | omega) (by first | assumption | omega) (by first | assumption | omega) (by first | assumption | omega) (by first | assumption | omega) (by first | assumption | omega) (by first | assumption | omega) (by first | assumption | omega) (by first | assumption | omega)) (cwV 0 F.2.2.2.2.1 gL_law_X6_check rfl rfl rfl (by decide +kernel) ⟨(Nat.le_of_ble_eq_true rfl), (Nat.le_of_ble_eq_true rfl)⟩) rfl rfl (q0 := 0) rfl [0, 27, 28, 29, 5, 6, 7, 8, 9, 10, 11, 12, 13, 14] rfl rfl rfl (Nat.le_of_ble_eq_true rfl) ⟨by show kc ≤ 600000; omega, by show ks ≤ 7302250; omega⟩ dL_law_805 (fun v hv => ?_)
  subst hv
  refine g_eq (st' := [iv (fwZ (firstZ (unwB kd lo hi pa pl pu nc) nc) (firstZ (brkB rk nu ct sa pl pu nc) nr))]) rfl rfl rfl ?_
  refine g_aload_n F 2 rfl rfl dL_law_808 ?_
  refine g_callRV F hV (As := []) (rest := [iv (fwZ (firstZ (unwB kd lo hi pa pl pu nc) nc) (firstZ (brkB rk nu ct sa pl pu nc) nr))]) (kX7_check l D cA md nc nr ke so bu bc pu qu fs cd un hb pf ef kd lo hi co pa rk nu ct sa pl pr (by first | assumption | omega) (by first | assumption | omega) (by first | assumption | omega) (by first | assumption | omega) (by first | assumption | omega) (by first | assumption | omega) (by first | assumption | omega) (by first | assumption | omega) (by first | assumption | omega) (by first | assumption | omega) (by first | assumption | omega) (by first | assumption | omega)) (cwV 0 F.2.2.2.2.1 gL_law_X7_check rfl rfl rfl (by decide +kernel) ⟨(Nat.le_of_ble_eq_true rfl), (Nat.le_of_ble_eq_true rfl)⟩) rfl rfl (q0 := 0) rfl [30, 31, 32, 33, 34, 35, 36, 37, 38, 39, 53, 54] rfl rfl rfl (Nat.le_of_ble_eq_true rfl) ⟨by show kc ≤ 600000; omega, by show ks ≤ 7302250; omega⟩ dL_law_809 (fun v hv => ?_)
  subst hv
  refine g_eq (st' := [iv (fwZ (firstZ (unwB kd lo hi pa pl pu nc) nc) (firstZ (brkB rk nu ct sa pl pu nc) nr)), iv (fwZ (firstZ (unwB kd lo hi pa pl pu nc) nc) (firstZ (brkB rk nu ct sa pl pu nc) nr))]) rfl rfl rfl ?_
  refine g_ieq F (tgt := 887) (rfl) dL_law_812 (by decide) ?_
  refine g_widen (kc + 364) (ks + 8112) (by omega) (by omega) ?_
  exact hk kd lo hi co pa rk nu ct sa nc nr so X k ad tbf ql qc n1 S pl pr pu qu ke bu bc fs cd un hb pf ef fr cs cn ck ch tb cr fx fv sn be tr wy (hI)

set_option maxHeartbeats 4000000 in
set_option maxRecDepth 100000 in
theorem lc_shows {p : Program} {l : Launch} {e : Env} {s : State} {m : MethodId} {below : List Frame} {meth : Method} {c : Code} {Q : State → Prop} {D : va_G} {cA : Nat → ClassId} {A : Nat → Prop} {sb Ln : Nat} {xs : Nat → Int32} {x se pg bt qr tq hd md : Nat → Nat} (F : Fx p s m #[Value.ref sb] meth c cL_law 4 RL wsL_law ret D cA) (hA : ∀ q, s.heap.size ≤ q → A q) (hX : va_X sb Ln xs s s.heap) (hbl : sb < s.heap.size) (hbA : ¬ A sb) (hL : Ln ≤ 2048) (i : Nat) (hi : i + 4 ≤ Ln) (kc ks : Nat) (hkc : kc + 364 ≤ 600000 ∧ ks + 8112 ≤ 7302250) (hk : lwN p l e s m sb below meth c Q D cA A x se pg bt qr tq hd md i (kc + 364) (ks + 8112) 887) : lwN p l e s m sb below meth c Q D cA A x se pg bt qr tq hd md i kc ks 817 := by
  intro kd lo hi co pa rk nu ct sa nc nr so X k ad tbf ql qc n1 S pl pr pu qu ke bu bc fs cd un hb pf ef fr cs cn ck ch tb cr fx fv sn be tr wy hI
  obtain ⟨hpr0, ⟨hS, hbd, hbo, hk51, ht1, ht2, h00⟩, ⟨hSq, hzq⟩, ⟨hpl, hpb, hpr, hqb⟩, ⟨hbm, hke⟩, hrel⟩ := id hI
  obtain ⟨hP, hR, hco, hpa5, hpaN, hle, zs, zc⟩ := id hpr0
  have qnc := hP.1
  have qkd := hP.2.1
  have qlo := hP.2.2.1
  have qhi : ∀ j, hi j = -2000000005 ∨ (-20 ≤ hi j ∧ hi j ≤ 20) := hP.2.2.2.1
  have qnr := hR.1
  have qrk := hR.2.1
  have qnu := hR.2.2.1
  have qnu2 : ∀ j, -198 ≤ nu j ∧ nu j ≤ 198 := fun j => by have := qnu j; omega
  have qsa := hR.2.2.2.1
  have qct := hR.2.2.2.2
  have hbb := hbd.1
  have hbc9 := hbd.2.1
  have hbv := hbd.2.2
  have hbu9 : 0 < bu ∧ bu ≤ 8000000 := hbm.1
  have hbcm : -200000000000 ≤ bc ∧ bc ≤ 200000000000 := hbm.2.1
  have hbem : ∀ j, -200000000000 ≤ be j ∧ be j ≤ 200000000000 := hbm.2.2
  have hpb1 : 1 ≤ pu ∧ pu ≤ 2000000000 := by omega
  have hV := @IM_P D s A
  have hz1 : -2147483648 ≤ (xs (i + 1)).toInt ∧ (xs (i + 1)).toInt ≤ 2147483647 := i32_rng _
  have hz2 : -2147483648 ≤ (xs (i + 2)).toInt ∧ (xs (i + 2)).toInt ≤ 2147483647 := i32_rng _
  have hz3 : -2147483648 ≤ (xs (i + 3)).toInt ∧ (xs (i + 3)).toInt ≤ 2147483647 := i32_rng _
  obtain ⟨z1, hz1e⟩ : ∃ z, z = (xs (i + 1)).toInt := ⟨_, rfl⟩
  obtain ⟨z2, hz2e⟩ : ∃ z, z = (xs (i + 2)).toInt := ⟨_, rfl⟩
  obtain ⟨z3, hz3e⟩ : ∃ z, z = (xs (i + 3)).toInt := ⟨_, rfl⟩
  rw [← hz1e] at hz1
  rw [← hz2e] at hz2
  rw [← hz3e] at hz3
  refine g_aload_n F 1 rfl rfl dL_law_817 ?_
  refine g_callRV F hV (As := []) (rest := []) (kX6_shows l D cA x (bt 0) (se 0) (qr 0) so hd pl pr pu qu pg kd lo hi co pa rk nu ct sa nc nr (by first | assumption | omega) (by first | assumption | omega) (by first | assumption | omega) (by first | assumption | omega) (by first | assumption | omega) (by first | assumption | omega) (by first | assumption | omega) (by first | assumption | omega) (by first | assumption | omega) (by first | assumption | omega) (by first | assumption | omega) (by first | assumption | omega) (by first | assumption | omega)) (cwV 0 F.2.2.2.2.1 gL_law_X6_shows rfl rfl rfl (by decide +kernel) ⟨(Nat.le_of_ble_eq_true rfl), (Nat.le_of_ble_eq_true rfl)⟩) rfl rfl (q0 := 0) rfl [0, 27, 28, 29, 5, 6, 7, 8, 9, 10, 11, 12, 13, 14] rfl rfl rfl (Nat.le_of_ble_eq_true rfl) ⟨by show kc ≤ 600000; omega, by show ks ≤ 7302250; omega⟩ dL_law_818 (fun v hv => ?_)
  subst hv
  refine g_eq (st' := [iv (if ¬ (firstZ (outB lo hi pl pu) nc < 0 ∧ firstZ (brkB rk nu ct sa pl pu nc) nr < 0) then 1 else if 0 ≤ firstZ (wpB rk ct pr) nr then 2 else if 0 ≤ firstZ (wrB lo hi co ct sa pr pl qu pu nr) nc then 3 else if 0 ≤ firstZ (idB nu ct sa pr pl pu nc) nr then 4 else 0)]) rfl rfl rfl ?_
  refine g_aload_n F 2 rfl rfl dL_law_821 ?_
  refine g_callRV F hV (As := []) (rest := [iv (if ¬ (firstZ (outB lo hi pl pu) nc < 0 ∧ firstZ (brkB rk nu ct sa pl pu nc) nr < 0) then 1 else if 0 ≤ firstZ (wpB rk ct pr) nr then 2 else if 0 ≤ firstZ (wrB lo hi co ct sa pr pl qu pu nr) nc then 3 else if 0 ≤ firstZ (idB nu ct sa pr pl pu nc) nr then 4 else 0)]) (kX7_shows l D cA md nc nr ke so bu bc pu qu fs cd un hb pf ef kd lo hi co pa rk nu ct sa pl pr (by first | assumption | omega) (by first | assumption | omega) (by first | assumption | omega) (by first | assumption | omega) (by first | assumption | omega) (by first | assumption | omega) (by first | assumption | omega) (by first | assumption | omega) (by first | assumption | omega) (by first | assumption | omega) (by first | assumption | omega) (by first | assumption | omega) (by first | assumption | omega)) (cwV 0 F.2.2.2.2.1 gL_law_X7_shows rfl rfl rfl (by decide +kernel) ⟨(Nat.le_of_ble_eq_true rfl), (Nat.le_of_ble_eq_true rfl)⟩) rfl rfl (q0 := 0) rfl [30, 31, 32, 33, 34, 35, 36, 37, 38, 39, 53, 54] rfl rfl rfl (Nat.le_of_ble_eq_true rfl) ⟨by show kc ≤ 600000; omega, by show ks ≤ 7302250; omega⟩ dL_law_822 (fun v hv => ?_)
  subst hv
  refine g_eq (st' := [iv (if ¬ (firstZ (outB lo hi pl pu) nc < 0 ∧ firstZ (brkB rk nu ct sa pl pu nc) nr < 0) then 1 else if 0 ≤ firstZ (wpB rk ct pr) nr then 2 else if 0 ≤ firstZ (wrB lo hi co ct sa pr pl qu pu nr) nc then 3 else if 0 ≤ firstZ (idB nu ct sa pr pl pu nc) nr then 4 else 0), iv (if ¬ (firstZ (outB lo hi pl pu) nc < 0 ∧ firstZ (brkB rk nu ct sa pl pu nc) nr < 0) then 1 else if 0 ≤ firstZ (wpB rk ct pr) nr then 2 else if 0 ≤ firstZ (wrB lo hi co ct sa pr pl qu pu nr) nc then 3 else if 0 ≤ firstZ (idB nu ct sa pr pl pu nc) nr then 4 else 0)]) rfl rfl rfl ?_
  refine g_ieq F (tgt := 887) (rfl) dL_law_825 (by decide) ?_
  refine g_widen (kc + 364) (ks + 8112) (by omega) (by omega) ?_
  exact hk kd lo hi co pa rk nu ct sa nc nr so X k ad tbf ql qc n1 S pl pr pu qu ke bu bc fs cd un hb pf ef fr cs cn ck ch tb cr fx fv sn be tr wy (hI)

set_option maxHeartbeats 4000000 in
set_option maxRecDepth 100000 in
theorem lc_sum {p : Program} {l : Launch} {e : Env} {s : State} {m : MethodId} {below : List Frame} {meth : Method} {c : Code} {Q : State → Prop} {D : va_G} {cA : Nat → ClassId} {A : Nat → Prop} {sb Ln : Nat} {xs : Nat → Int32} {x se pg bt qr tq hd md : Nat → Nat} (F : Fx p s m #[Value.ref sb] meth c cL_law 4 RL wsL_law ret D cA) (hA : ∀ q, s.heap.size ≤ q → A q) (hX : va_X sb Ln xs s s.heap) (hbl : sb < s.heap.size) (hbA : ¬ A sb) (hL : Ln ≤ 2048) (i : Nat) (hi : i + 4 ≤ Ln) (kc ks : Nat) (hkc : kc + 364 ≤ 600000 ∧ ks + 8112 ≤ 7302250) (hk : lwN p l e s m sb below meth c Q D cA A x se pg bt qr tq hd md i (kc + 364) (ks + 8112) 887) : lwN p l e s m sb below meth c Q D cA A x se pg bt qr tq hd md i kc ks 830 := by
  intro kd lo hi co pa rk nu ct sa nc nr so X k ad tbf ql qc n1 S pl pr pu qu ke bu bc fs cd un hb pf ef fr cs cn ck ch tb cr fx fv sn be tr wy hI
  obtain ⟨hpr0, ⟨hS, hbd, hbo, hk51, ht1, ht2, h00⟩, ⟨hSq, hzq⟩, ⟨hpl, hpb, hpr, hqb⟩, ⟨hbm, hke⟩, hrel⟩ := id hI
  obtain ⟨hP, hR, hco, hpa5, hpaN, hle, zs, zc⟩ := id hpr0
  have qnc := hP.1
  have qkd := hP.2.1
  have qlo := hP.2.2.1
  have qhi : ∀ j, hi j = -2000000005 ∨ (-20 ≤ hi j ∧ hi j ≤ 20) := hP.2.2.2.1
  have qnr := hR.1
  have qrk := hR.2.1
  have qnu := hR.2.2.1
  have qnu2 : ∀ j, -198 ≤ nu j ∧ nu j ≤ 198 := fun j => by have := qnu j; omega
  have qsa := hR.2.2.2.1
  have qct := hR.2.2.2.2
  have hbb := hbd.1
  have hbc9 := hbd.2.1
  have hbv := hbd.2.2
  have hbu9 : 0 < bu ∧ bu ≤ 8000000 := hbm.1
  have hbcm : -200000000000 ≤ bc ∧ bc ≤ 200000000000 := hbm.2.1
  have hbem : ∀ j, -200000000000 ≤ be j ∧ be j ≤ 200000000000 := hbm.2.2
  have hpb1 : 1 ≤ pu ∧ pu ≤ 2000000000 := by omega
  have hV := @IM_P D s A
  have hz1 : -2147483648 ≤ (xs (i + 1)).toInt ∧ (xs (i + 1)).toInt ≤ 2147483647 := i32_rng _
  have hz2 : -2147483648 ≤ (xs (i + 2)).toInt ∧ (xs (i + 2)).toInt ≤ 2147483647 := i32_rng _
  have hz3 : -2147483648 ≤ (xs (i + 3)).toInt ∧ (xs (i + 3)).toInt ≤ 2147483647 := i32_rng _
  obtain ⟨z1, hz1e⟩ : ∃ z, z = (xs (i + 1)).toInt := ⟨_, rfl⟩
  obtain ⟨z2, hz2e⟩ : ∃ z, z = (xs (i + 2)).toInt := ⟨_, rfl⟩
  obtain ⟨z3, hz3e⟩ : ∃ z, z = (xs (i + 3)).toInt := ⟨_, rfl⟩
  rw [← hz1e] at hz1
  rw [← hz2e] at hz2
  rw [← hz3e] at hz3
  refine g_aload_n F 1 rfl rfl dL_law_830 ?_
  refine g_aload_n F 0 rfl rfl dL_law_831 ?_
  refine g_iload_n F 3 rfl rfl dL_law_832 ?_
  refine g_iconst F dL_law_833 ?_
  refine g_iadd F dL_law_834 ?_
  refine g_sld F hX hbl hbA (i + 1) (by omega) (by omega) (by omega) dL_law_835 ?_
  rw [← hz1e]
  refine g_aload_n F 0 rfl rfl dL_law_836 ?_
  refine g_iload_n F 3 rfl rfl dL_law_837 ?_
  refine g_iconst F dL_law_838 ?_
  refine g_iadd F dL_law_839 ?_
  refine g_sld F hX hbl hbA (i + 2) (by omega) (by omega) (by omega) dL_law_840 ?_
  rw [← hz2e]
  refine g_callRV F hV (As := [iv z1, iv z2]) (rest := []) (kX6_sum l D cA x (bt 0) (se 0) (qr 0) so hd pl pr pu qu pg kd lo hi co pa rk nu ct sa nc nr z1 z2 (by first | assumption | omega) (by first | assumption | omega) (by first | assumption | omega) (by first | assumption | omega) (by first | assumption | omega) (by first | assumption | omega) (by first | assumption | omega) (by first | assumption | omega)) (cwV 2 F.2.2.2.2.1 gL_law_X6_sum rfl rfl rfl (by decide +kernel) ⟨(Nat.le_of_ble_eq_true rfl), (Nat.le_of_ble_eq_true rfl)⟩) rfl rfl (q0 := 0) rfl [0, 27, 28, 29, 5, 6, 7, 8, 9, 10, 11, 12, 13, 14] rfl rfl rfl (Nat.le_of_ble_eq_true rfl) ⟨by show kc ≤ 600000; omega, by show ks ≤ 7302250; omega⟩ dL_law_841 (fun v hv => ?_)
  subst hv
  refine g_eq (st' := [jv (if (0 ≤ z1 ∧ z1 < (nr : Int)) ∧ (z2 = 0 ∨ z2 = 1) then lowZ (sumZ (fun j => sa (z1.toNat * 5 + j) * pl j) nc) pu z2 else -2000000001)]) rfl rfl rfl ?_
  refine g_aload_n F 2 rfl rfl dL_law_844 ?_
  refine g_aload_n F 0 rfl rfl dL_law_845 ?_
  refine g_iload_n F 3 rfl rfl dL_law_846 ?_
  refine g_iconst F dL_law_847 ?_
  refine g_iadd F dL_law_848 ?_
  refine g_sld F hX hbl hbA (i + 1) (by omega) (by omega) (by omega) dL_law_849 ?_
  rw [← hz1e]
  refine g_aload_n F 0 rfl rfl dL_law_850 ?_
  refine g_iload_n F 3 rfl rfl dL_law_851 ?_
  refine g_iconst F dL_law_852 ?_
  refine g_iadd F dL_law_853 ?_
  refine g_sld F hX hbl hbA (i + 2) (by omega) (by omega) (by omega) dL_law_854 ?_
  rw [← hz2e]
  refine g_callRV F hV (As := [iv z1, iv z2]) (rest := [jv (if (0 ≤ z1 ∧ z1 < (nr : Int)) ∧ (z2 = 0 ∨ z2 = 1) then lowZ (sumZ (fun j => sa (z1.toNat * 5 + j) * pl j) nc) pu z2 else -2000000001)]) (kX7_sum l D cA md nc nr ke so bu bc pu qu fs cd un hb pf ef kd lo hi co pa rk nu ct sa pl pr z1 z2 (by first | assumption | omega) (by first | assumption | omega) (by first | assumption | omega) (by first | assumption | omega) (by first | assumption | omega) (by first | assumption | omega) (by first | assumption | omega) (by first | assumption | omega)) (cwV 2 F.2.2.2.2.1 gL_law_X7_sum rfl rfl rfl (by decide +kernel) ⟨(Nat.le_of_ble_eq_true rfl), (Nat.le_of_ble_eq_true rfl)⟩) rfl rfl (q0 := 0) rfl [30, 31, 32, 33, 34, 35, 36, 37, 38, 39, 53, 54] rfl rfl rfl (Nat.le_of_ble_eq_true rfl) ⟨by show kc ≤ 600000; omega, by show ks ≤ 7302250; omega⟩ dL_law_855 (fun v hv => ?_)
  subst hv
  refine g_eq (st' := [jv (if (0 ≤ z1 ∧ z1 < (nr : Int)) ∧ (z2 = 0 ∨ z2 = 1) then lowZ (sumZ (fun j => sa (z1.toNat * 5 + j) * pl j) nc) pu z2 else -2000000001), jv (if (0 ≤ z1 ∧ z1 < (nr : Int)) ∧ (z2 = 0 ∨ z2 = 1) then lowZ (sumZ (fun j => sa (z1.toNat * 5 + j) * pl j) nc) pu z2 else -2000000001)]) rfl rfl rfl ?_
  refine g_leq F (tgt := 887) (rfl) dL_law_858 dL_law_859 (by decide) ?_
  refine g_widen (kc + 364) (ks + 8112) (by omega) (by omega) ?_
  exact hk kd lo hi co pa rk nu ct sa nc nr so X k ad tbf ql qc n1 S pl pr pu qu ke bu bc fs cd un hb pf ef fr cs cn ck ch tb cr fx fv sn be tr wy (hI)

set_option maxHeartbeats 4000000 in
set_option maxRecDepth 100000 in
theorem lc_count {p : Program} {l : Launch} {e : Env} {s : State} {m : MethodId} {below : List Frame} {meth : Method} {c : Code} {Q : State → Prop} {D : va_G} {cA : Nat → ClassId} {A : Nat → Prop} {sb Ln : Nat} {xs : Nat → Int32} {x se pg bt qr tq hd md : Nat → Nat} (F : Fx p s m #[Value.ref sb] meth c cL_law 4 RL wsL_law ret D cA) (hA : ∀ q, s.heap.size ≤ q → A q) (hX : va_X sb Ln xs s s.heap) (hbl : sb < s.heap.size) (hbA : ¬ A sb) (hL : Ln ≤ 2048) (i : Nat) (hi : i + 4 ≤ Ln) (kc ks : Nat) (hkc : kc + 364 ≤ 600000 ∧ ks + 8112 ≤ 7302250) (hk : lwN p l e s m sb below meth c Q D cA A x se pg bt qr tq hd md i (kc + 364) (ks + 8112) 887) : lwN p l e s m sb below meth c Q D cA A x se pg bt qr tq hd md i kc ks 864 := by
  intro kd lo hi co pa rk nu ct sa nc nr so X k ad tbf ql qc n1 S pl pr pu qu ke bu bc fs cd un hb pf ef fr cs cn ck ch tb cr fx fv sn be tr wy hI
  obtain ⟨hpr0, ⟨hS, hbd, hbo, hk51, ht1, ht2, h00⟩, ⟨hSq, hzq⟩, ⟨hpl, hpb, hpr, hqb⟩, ⟨hbm, hke⟩, hrel⟩ := id hI
  obtain ⟨hP, hR, hco, hpa5, hpaN, hle, zs, zc⟩ := id hpr0
  have qnc := hP.1
  have qkd := hP.2.1
  have qlo := hP.2.2.1
  have qhi : ∀ j, hi j = -2000000005 ∨ (-20 ≤ hi j ∧ hi j ≤ 20) := hP.2.2.2.1
  have qnr := hR.1
  have qrk := hR.2.1
  have qnu := hR.2.2.1
  have qnu2 : ∀ j, -198 ≤ nu j ∧ nu j ≤ 198 := fun j => by have := qnu j; omega
  have qsa := hR.2.2.2.1
  have qct := hR.2.2.2.2
  have hbb := hbd.1
  have hbc9 := hbd.2.1
  have hbv := hbd.2.2
  have hbu9 : 0 < bu ∧ bu ≤ 8000000 := hbm.1
  have hbcm : -200000000000 ≤ bc ∧ bc ≤ 200000000000 := hbm.2.1
  have hbem : ∀ j, -200000000000 ≤ be j ∧ be j ≤ 200000000000 := hbm.2.2
  have hpb1 : 1 ≤ pu ∧ pu ≤ 2000000000 := by omega
  have hV := @IM_P D s A
  have hz1 : -2147483648 ≤ (xs (i + 1)).toInt ∧ (xs (i + 1)).toInt ≤ 2147483647 := i32_rng _
  have hz2 : -2147483648 ≤ (xs (i + 2)).toInt ∧ (xs (i + 2)).toInt ≤ 2147483647 := i32_rng _
  have hz3 : -2147483648 ≤ (xs (i + 3)).toInt ∧ (xs (i + 3)).toInt ≤ 2147483647 := i32_rng _
  obtain ⟨z1, hz1e⟩ : ∃ z, z = (xs (i + 1)).toInt := ⟨_, rfl⟩
  obtain ⟨z2, hz2e⟩ : ∃ z, z = (xs (i + 2)).toInt := ⟨_, rfl⟩
  obtain ⟨z3, hz3e⟩ : ∃ z, z = (xs (i + 3)).toInt := ⟨_, rfl⟩
  rw [← hz1e] at hz1
  rw [← hz2e] at hz2
  rw [← hz3e] at hz3
  refine g_aload_n F 1 rfl rfl dL_law_864 ?_
  refine g_aload_n F 0 rfl rfl dL_law_865 ?_
  refine g_iload_n F 3 rfl rfl dL_law_866 ?_
  refine g_iconst F dL_law_867 ?_
  refine g_iadd F dL_law_868 ?_
  refine g_sld F hX hbl hbA (i + 1) (by omega) (by omega) (by omega) dL_law_869 ?_
  rw [← hz1e]
  refine g_callRV F hV (As := [iv z1]) (rest := []) (kX6_count l D cA x (bt 0) (se 0) (qr 0) (hd 0) so pg kd lo hi co pa rk nu ct sa nc nr z1 (by first | assumption | omega) (by first | assumption | omega) (by first | assumption | omega) (by first | assumption | omega) (by first | assumption | omega)) (cwV 1 F.2.2.2.2.1 gL_law_X6_count rfl rfl rfl (by decide +kernel) ⟨(Nat.le_of_ble_eq_true rfl), (Nat.le_of_ble_eq_true rfl)⟩) rfl rfl (q0 := 0) rfl [0, 5, 6, 7, 8, 9, 10, 11, 12, 13, 14] rfl rfl rfl (Nat.le_of_ble_eq_true rfl) ⟨by show kc ≤ 600000; omega, by show ks ≤ 7302250; omega⟩ dL_law_870 (fun v hv => ?_)
  subst hv
  refine g_eq (st' := [iv (if z1 = 0 then (nc : Int) else if z1 = 1 then (nr : Int) else if z1 = 2 then ((bitsN (setZ ct nr) : Nat) : Int) else if z1 = 3 then ((cntZ (fun j => decide (1 ≤ kd j)) nc : Nat) : Int) else if z1 = 4 then ((cntZ (fun j => decide (2 ≤ kd j)) nc : Nat) : Int) else if z1 = 5 then so else -2000000001)]) rfl rfl rfl ?_
  refine g_aload_n F 2 rfl rfl dL_law_873 ?_
  refine g_aload_n F 0 rfl rfl dL_law_874 ?_
  refine g_iload_n F 3 rfl rfl dL_law_875 ?_
  refine g_iconst F dL_law_876 ?_
  refine g_iadd F dL_law_877 ?_
  refine g_sld F hX hbl hbA (i + 1) (by omega) (by omega) (by omega) dL_law_878 ?_
  rw [← hz1e]
  refine g_callRV F hV (As := [iv z1]) (rest := [iv (if z1 = 0 then (nc : Int) else if z1 = 1 then (nr : Int) else if z1 = 2 then ((bitsN (setZ ct nr) : Nat) : Int) else if z1 = 3 then ((cntZ (fun j => decide (1 ≤ kd j)) nc : Nat) : Int) else if z1 = 4 then ((cntZ (fun j => decide (2 ≤ kd j)) nc : Nat) : Int) else if z1 = 5 then so else -2000000001)]) (kX7_count l D cA md nc nr ke so bu bc pu qu fs cd un hb pf ef kd lo hi co pa rk nu ct sa z1 (by first | assumption | omega) (by first | assumption | omega) (by first | assumption | omega) (by first | assumption | omega) (by first | assumption | omega)) (cwV 1 F.2.2.2.2.1 gL_law_X7_count rfl rfl rfl (by decide +kernel) ⟨(Nat.le_of_ble_eq_true rfl), (Nat.le_of_ble_eq_true rfl)⟩) rfl rfl (q0 := 0) rfl [30, 31, 32, 33, 34, 35, 36, 37, 38, 39] rfl rfl rfl (Nat.le_of_ble_eq_true rfl) ⟨by show kc ≤ 600000; omega, by show ks ≤ 7302250; omega⟩ dL_law_879 (fun v hv => ?_)
  subst hv
  refine g_eq (st' := [iv (if z1 = 0 then (nc : Int) else if z1 = 1 then (nr : Int) else if z1 = 2 then ((bitsN (setZ ct nr) : Nat) : Int) else if z1 = 3 then ((cntZ (fun j => decide (1 ≤ kd j)) nc : Nat) : Int) else if z1 = 4 then ((cntZ (fun j => decide (2 ≤ kd j)) nc : Nat) : Int) else if z1 = 5 then so else -2000000001), iv (if z1 = 0 then (nc : Int) else if z1 = 1 then (nr : Int) else if z1 = 2 then ((bitsN (setZ ct nr) : Nat) : Int) else if z1 = 3 then ((cntZ (fun j => decide (1 ≤ kd j)) nc : Nat) : Int) else if z1 = 4 then ((cntZ (fun j => decide (2 ≤ kd j)) nc : Nat) : Int) else if z1 = 5 then so else -2000000001)]) rfl rfl rfl ?_
  refine g_ieq F (tgt := 887) (rfl) dL_law_882 (by decide) ?_
  refine g_widen (kc + 364) (ks + 8112) (by omega) (by omega) ?_
  exact hk kd lo hi co pa rk nu ct sa nc nr so X k ad tbf ql qc n1 S pl pr pu qu ke bu bc fs cd un hb pf ef fr cs cn ck ch tb cr fx fv sn be tr wy (hI)

set_option maxHeartbeats 4000000 in
set_option maxRecDepth 100000 in
theorem lc_least {p : Program} {l : Launch} {e : Env} {s : State} {m : MethodId} {below : List Frame} {meth : Method} {c : Code} {Q : State → Prop} {D : va_G} {cA : Nat → ClassId} {A : Nat → Prop} {sb Ln : Nat} {xs : Nat → Int32} {x se pg bt qr tq hd md : Nat → Nat} (F : Fx p s m #[Value.ref sb] meth c cL_law 4 RL wsL_law ret D cA) (hA : ∀ q, s.heap.size ≤ q → A q) (hX : va_X sb Ln xs s s.heap) (hbl : sb < s.heap.size) (hbA : ¬ A sb) (hL : Ln ≤ 2048) (i : Nat) (hi : i + 4 ≤ Ln) (kc ks : Nat) (hkc : kc + 364 ≤ 600000 ∧ ks + 8112 ≤ 7302250) (hk : lwN p l e s m sb below meth c Q D cA A x se pg bt qr tq hd md i (kc + 364) (ks + 8112) 887) : lwN p l e s m sb below meth c Q D cA A x se pg bt qr tq hd md i kc ks 607 := by
  intro kd lo hi co pa rk nu ct sa nc nr so X k ad tbf ql qc n1 S pl pr pu qu ke bu bc fs cd un hb pf ef fr cs cn ck ch tb cr fx fv sn be tr wy hI
  obtain ⟨hpr0, ⟨hS, hbd, hbo, hk51, ht1, ht2, h00⟩, ⟨hSq, hzq⟩, ⟨hpl, hpb, hpr, hqb⟩, ⟨hbm, hke⟩, hrel⟩ := id hI
  obtain ⟨hP, hR, hco, hpa5, hpaN, hle, zs, zc⟩ := id hpr0
  have qnc := hP.1
  have qkd := hP.2.1
  have qlo := hP.2.2.1
  have qhi : ∀ j, hi j = -2000000005 ∨ (-20 ≤ hi j ∧ hi j ≤ 20) := hP.2.2.2.1
  have qnr := hR.1
  have qrk := hR.2.1
  have qnu := hR.2.2.1
  have qnu2 : ∀ j, -198 ≤ nu j ∧ nu j ≤ 198 := fun j => by have := qnu j; omega
  have qsa := hR.2.2.2.1
  have qct := hR.2.2.2.2
  have hbb := hbd.1
  have hbc9 := hbd.2.1
  have hbv := hbd.2.2
  have hbu9 : 0 < bu ∧ bu ≤ 8000000 := hbm.1
  have hbcm : -200000000000 ≤ bc ∧ bc ≤ 200000000000 := hbm.2.1
  have hbem : ∀ j, -200000000000 ≤ be j ∧ be j ≤ 200000000000 := hbm.2.2
  have hpb1 : 1 ≤ pu ∧ pu ≤ 2000000000 := by omega
  have hV := @IM_P D s A
  have hz1 : -2147483648 ≤ (xs (i + 1)).toInt ∧ (xs (i + 1)).toInt ≤ 2147483647 := i32_rng _
  have hz2 : -2147483648 ≤ (xs (i + 2)).toInt ∧ (xs (i + 2)).toInt ≤ 2147483647 := i32_rng _
  have hz3 : -2147483648 ≤ (xs (i + 3)).toInt ∧ (xs (i + 3)).toInt ≤ 2147483647 := i32_rng _
  obtain ⟨z1, hz1e⟩ : ∃ z, z = (xs (i + 1)).toInt := ⟨_, rfl⟩
  obtain ⟨z2, hz2e⟩ : ∃ z, z = (xs (i + 2)).toInt := ⟨_, rfl⟩
  obtain ⟨z3, hz3e⟩ : ∃ z, z = (xs (i + 3)).toInt := ⟨_, rfl⟩
  rw [← hz1e] at hz1
  rw [← hz2e] at hz2
  rw [← hz3e] at hz3
  refine g_aload_n F 1 rfl rfl dL_law_607 ?_
  refine g_aload_n F 0 rfl rfl dL_law_608 ?_
  refine g_iload_n F 3 rfl rfl dL_law_609 ?_
  refine g_iconst F dL_law_610 ?_
  refine g_iadd F dL_law_611 ?_
  refine g_sld F hX hbl hbA (i + 1) (by omega) (by omega) (by omega) dL_law_612 ?_
  rw [← hz1e]
  refine g_callRV F hV (As := [iv z1]) (rest := []) (kX6_least l D cA x (pg 0) (se 0) (qr 0) (hd 0) so bt (bBs X).1 (bBs X).2.1 (bBs X).2.2.1 (bBs X).2.2.2 z1 (by first | assumption | omega) (by first | assumption | omega) (by first | assumption | omega) (by first | assumption | omega) (by first | assumption | omega)) (cwV 1 F.2.2.2.2.1 gL_law_X6_least rfl rfl rfl (by decide +kernel) ⟨(Nat.le_of_ble_eq_true rfl), (Nat.le_of_ble_eq_true rfl)⟩) rfl rfl (q0 := 0) rfl [0, 15, 16] rfl rfl rfl (Nat.le_of_ble_eq_true rfl) ⟨by show kc ≤ 600000; omega, by show ks ≤ 7302250; omega⟩ dL_law_613 (fun v hv => ?_)
  subst hv
  refine g_eq (st' := [jv (if z1 = 0 ∨ z1 = 1 then (if (bBs X).2.2.2 = 0 then lowZ (bBs X).2.1 (bBs X).2.2.1 z1 else -2000000002) else -2000000001)]) rfl rfl rfl ?_
  refine g_aload_n F 2 rfl rfl dL_law_616 ?_
  refine g_aload_n F 0 rfl rfl dL_law_617 ?_
  refine g_iload_n F 3 rfl rfl dL_law_618 ?_
  refine g_iconst F dL_law_619 ?_
  refine g_iadd F dL_law_620 ?_
  refine g_sld F hX hbl hbA (i + 1) (by omega) (by omega) (by omega) dL_law_621 ?_
  rw [← hz1e]
  refine g_callRV F hV (As := [iv z1]) (rest := [jv (if z1 = 0 ∨ z1 = 1 then (if (bBs X).2.2.2 = 0 then lowZ (bBs X).2.1 (bBs X).2.2.1 z1 else -2000000002) else -2000000001)]) (kX7_least l D cA md nc nr ke so bu bc pu qu fs cd un hb pf ef z1 (by first | assumption | omega) (by first | assumption | omega) (by first | assumption | omega) (by first | assumption | omega)) (cwV 1 F.2.2.2.2.1 gL_law_X7_least rfl rfl rfl (by decide +kernel) ⟨(Nat.le_of_ble_eq_true rfl), (Nat.le_of_ble_eq_true rfl)⟩) rfl rfl (q0 := 0) rfl [30] rfl rfl rfl (Nat.le_of_ble_eq_true rfl) ⟨by show kc ≤ 600000; omega, by show ks ≤ 7302250; omega⟩ dL_law_622 (fun v hv => ?_)
  subst hv
  refine g_eq (st' := [jv (if z1 = 0 ∨ z1 = 1 then (if ke = 0 then lowZ bc bu z1 else -2000000002) else -2000000001), jv (if z1 = 0 ∨ z1 = 1 then (if (bBs X).2.2.2 = 0 then lowZ (bBs X).2.1 (bBs X).2.2.1 z1 else -2000000002) else -2000000001)]) rfl rfl rfl ?_
  refine g_leq F (tgt := 887) (by rw [rel_least hrel hbb.1 hbu9.1]) dL_law_625 dL_law_626 (by decide) ?_
  refine g_widen (kc + 364) (ks + 8112) (by omega) (by omega) ?_
  exact hk kd lo hi co pa rk nu ct sa nc nr so X k ad tbf ql qc n1 S pl pr pu qu ke bu bc fs cd un hb pf ef fr cs cn ck ch tb cr fx fv sn be tr wy (hI)

set_option maxHeartbeats 4000000 in
set_option maxRecDepth 100000 in
theorem lc_value {p : Program} {l : Launch} {e : Env} {s : State} {m : MethodId} {below : List Frame} {meth : Method} {c : Code} {Q : State → Prop} {D : va_G} {cA : Nat → ClassId} {A : Nat → Prop} {sb Ln : Nat} {xs : Nat → Int32} {x se pg bt qr tq hd md : Nat → Nat} (F : Fx p s m #[Value.ref sb] meth c cL_law 4 RL wsL_law ret D cA) (hA : ∀ q, s.heap.size ≤ q → A q) (hX : va_X sb Ln xs s s.heap) (hbl : sb < s.heap.size) (hbA : ¬ A sb) (hL : Ln ≤ 2048) (i : Nat) (hi : i + 4 ≤ Ln) (kc ks : Nat) (hkc : kc + 364 ≤ 600000 ∧ ks + 8112 ≤ 7302250) (hk : lwN p l e s m sb below meth c Q D cA A x se pg bt qr tq hd md i (kc + 364) (ks + 8112) 887) : lwN p l e s m sb below meth c Q D cA A x se pg bt qr tq hd md i kc ks 631 := by
  intro kd lo hi co pa rk nu ct sa nc nr so X k ad tbf ql qc n1 S pl pr pu qu ke bu bc fs cd un hb pf ef fr cs cn ck ch tb cr fx fv sn be tr wy hI
  obtain ⟨hpr0, ⟨hS, hbd, hbo, hk51, ht1, ht2, h00⟩, ⟨hSq, hzq⟩, ⟨hpl, hpb, hpr, hqb⟩, ⟨hbm, hke⟩, hrel⟩ := id hI
  obtain ⟨hP, hR, hco, hpa5, hpaN, hle, zs, zc⟩ := id hpr0
  have qnc := hP.1
  have qkd := hP.2.1
  have qlo := hP.2.2.1
  have qhi : ∀ j, hi j = -2000000005 ∨ (-20 ≤ hi j ∧ hi j ≤ 20) := hP.2.2.2.1
  have qnr := hR.1
  have qrk := hR.2.1
  have qnu := hR.2.2.1
  have qnu2 : ∀ j, -198 ≤ nu j ∧ nu j ≤ 198 := fun j => by have := qnu j; omega
  have qsa := hR.2.2.2.1
  have qct := hR.2.2.2.2
  have hbb := hbd.1
  have hbc9 := hbd.2.1
  have hbv := hbd.2.2
  have hbu9 : 0 < bu ∧ bu ≤ 8000000 := hbm.1
  have hbcm : -200000000000 ≤ bc ∧ bc ≤ 200000000000 := hbm.2.1
  have hbem : ∀ j, -200000000000 ≤ be j ∧ be j ≤ 200000000000 := hbm.2.2
  have hpb1 : 1 ≤ pu ∧ pu ≤ 2000000000 := by omega
  have hV := @IM_P D s A
  have hz1 : -2147483648 ≤ (xs (i + 1)).toInt ∧ (xs (i + 1)).toInt ≤ 2147483647 := i32_rng _
  have hz2 : -2147483648 ≤ (xs (i + 2)).toInt ∧ (xs (i + 2)).toInt ≤ 2147483647 := i32_rng _
  have hz3 : -2147483648 ≤ (xs (i + 3)).toInt ∧ (xs (i + 3)).toInt ≤ 2147483647 := i32_rng _
  obtain ⟨z1, hz1e⟩ : ∃ z, z = (xs (i + 1)).toInt := ⟨_, rfl⟩
  obtain ⟨z2, hz2e⟩ : ∃ z, z = (xs (i + 2)).toInt := ⟨_, rfl⟩
  obtain ⟨z3, hz3e⟩ : ∃ z, z = (xs (i + 3)).toInt := ⟨_, rfl⟩
  rw [← hz1e] at hz1
  rw [← hz2e] at hz2
  rw [← hz3e] at hz3
  refine g_aload_n F 1 rfl rfl dL_law_631 ?_
  refine g_aload_n F 0 rfl rfl dL_law_632 ?_
  refine g_iload_n F 3 rfl rfl dL_law_633 ?_
  refine g_iconst F dL_law_634 ?_
  refine g_iadd F dL_law_635 ?_
  refine g_sld F hX hbl hbA (i + 1) (by omega) (by omega) (by omega) dL_law_636 ?_
  rw [← hz1e]
  refine g_aload_n F 0 rfl rfl dL_law_637 ?_
  refine g_iload_n F 3 rfl rfl dL_law_638 ?_
  refine g_iconst F dL_law_639 ?_
  refine g_iadd F dL_law_640 ?_
  refine g_sld F hX hbl hbA (i + 2) (by omega) (by omega) (by omega) dL_law_641 ?_
  rw [← hz2e]
  refine g_callRV F hV (As := [iv z1, iv z2]) (rest := []) (kX6_value l D cA x (se 0) (qr 0) (hd 0) so pg kd lo hi co pa rk nu ct sa nc nr bt (bBs X).1 (bBs X).2.1 (bBs X).2.2.1 (bBs X).2.2.2 z1 z2 (by first | assumption | omega) (by first | assumption | omega) (by first | assumption | omega) (by first | assumption | omega) (by first | assumption | omega) (by first | assumption | omega) (by first | assumption | omega) (by first | assumption | omega) (by first | assumption | omega)) (cwV 2 F.2.2.2.2.1 gL_law_X6_value rfl rfl rfl (by decide +kernel) ⟨(Nat.le_of_ble_eq_true rfl), (Nat.le_of_ble_eq_true rfl)⟩) rfl rfl (q0 := 0) rfl [0, 5, 6, 7, 8, 9, 10, 11, 12, 13, 14, 15, 16] rfl rfl rfl (Nat.le_of_ble_eq_true rfl) ⟨by show kc ≤ 600000; omega, by show ks ≤ 7302250; omega⟩ dL_law_642 (fun v hv => ?_)
  subst hv
  refine g_eq (st' := [jv (if (0 ≤ z1 ∧ z1 < (nc : Int)) ∧ (z2 = 0 ∨ z2 = 1) then (if (bBs X).2.2.2 = 0 then lowZ ((bBs X).1 z1.toNat) (bBs X).2.2.1 z2 else -2000000002) else -2000000001)]) rfl rfl rfl ?_
  refine g_aload_n F 2 rfl rfl dL_law_645 ?_
  refine g_aload_n F 0 rfl rfl dL_law_646 ?_
  refine g_iload_n F 3 rfl rfl dL_law_647 ?_
  refine g_iconst F dL_law_648 ?_
  refine g_iadd F dL_law_649 ?_
  refine g_sld F hX hbl hbA (i + 1) (by omega) (by omega) (by omega) dL_law_650 ?_
  rw [← hz1e]
  refine g_aload_n F 0 rfl rfl dL_law_651 ?_
  refine g_iload_n F 3 rfl rfl dL_law_652 ?_
  refine g_iconst F dL_law_653 ?_
  refine g_iadd F dL_law_654 ?_
  refine g_sld F hX hbl hbA (i + 2) (by omega) (by omega) (by omega) dL_law_655 ?_
  rw [← hz2e]
  refine g_callRV F hV (As := [iv z1, iv z2]) (rest := [jv (if (0 ≤ z1 ∧ z1 < (nc : Int)) ∧ (z2 = 0 ∨ z2 = 1) then (if (bBs X).2.2.2 = 0 then lowZ ((bBs X).1 z1.toNat) (bBs X).2.2.1 z2 else -2000000002) else -2000000001)]) (kX7_value l D cA md nc nr ke so bu bc pu qu fs cd un hb pf ef be tr wy z1 z2 (by first | assumption | omega) (by first | assumption | omega) (by first | assumption | omega) (by first | assumption | omega) (by first | assumption | omega) (by first | assumption | omega)) (cwV 2 F.2.2.2.2.1 gL_law_X7_value rfl rfl rfl (by decide +kernel) ⟨(Nat.le_of_ble_eq_true rfl), (Nat.le_of_ble_eq_true rfl)⟩) rfl rfl (q0 := 0) rfl [30, 50, 51, 52] rfl rfl rfl (Nat.le_of_ble_eq_true rfl) ⟨by show kc ≤ 600000; omega, by show ks ≤ 7302250; omega⟩ dL_law_656 (fun v hv => ?_)
  subst hv
  refine g_eq (st' := [jv (if (0 ≤ z1 ∧ z1 < (nc : Int)) ∧ (z2 = 0 ∨ z2 = 1) then (if ke = 0 then lowZ (be z1.toNat) bu z2 else -2000000002) else -2000000001), jv (if (0 ≤ z1 ∧ z1 < (nc : Int)) ∧ (z2 = 0 ∨ z2 = 1) then (if (bBs X).2.2.2 = 0 then lowZ ((bBs X).1 z1.toNat) (bBs X).2.2.1 z2 else -2000000002) else -2000000001)]) rfl rfl rfl ?_
  refine g_leq F (tgt := 887) (by rw [rel_value z1.toNat hrel hbb.1 hbu9.1]) dL_law_659 dL_law_660 (by decide) ?_
  refine g_widen (kc + 364) (ks + 8112) (by omega) (by omega) ?_
  exact hk kd lo hi co pa rk nu ct sa nc nr so X k ad tbf ql qc n1 S pl pr pu qu ke bu bc fs cd un hb pf ef fr cs cn ck ch tb cr fx fv sn be tr wy (hI)
