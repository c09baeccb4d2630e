set_option maxHeartbeats 4000000 in
set_option maxRecDepth 100000 in
theorem lc_partner {p : Program} {l : Launch} {e : Env} {s : State} {m : MethodId} {below : List Frame} {meth : Method} {c : Code} {Q : State → Prop} {D : va_G} {cA : Nat → ClassId} {A : Nat → Prop} {sb Ln : Nat} {xs : Nat → Int32} {x se pg bt qr tq hd md : Nat → Nat} (F : Fx p s m #[Value.ref sb] meth c cL_law 4 RL wsL_law ret D cA) (hA : ∀ q, s.heap.size ≤ q → A q) (hX : va_X sb Ln xs s s.heap) (hbl : sb < s.heap.size) (hbA : ¬ A sb) (hL : Ln ≤ 2048) (i : Nat) (hi : i + 4 ≤ Ln) (kc ks : Nat) (hkc : kc + 364 ≤ 600000 ∧ ks + 8112 ≤ 7302250) (hk : lwN p l e s m sb below meth c Q D cA A x se pg bt qr tq hd md i (kc + 364) (ks + 8112) 887) : lwN p l e s m sb below meth c Q D cA A x se pg bt qr tq hd md i kc ks 234 := by
  intro kd lo hi co pa rk nu ct sa nc nr so X k ad tbf ql qc n1 S pl pr pu qu ke bu bc fs cd un hb pf ef fr cs cn ck ch tb cr fx fv sn be tr wy hI
  obtain ⟨hpr0, ⟨hS, hbd, hbo, hk51, ht1, ht2, h00⟩, ⟨hSq, hzq⟩, ⟨hpl, hpb, hpr, hqb⟩, ⟨hbm, hke⟩, hrel⟩ := id hI
  obtain ⟨hP, hR, hco, hpa5, hpaN, hle, zs, zc⟩ := id hpr0
  have qnc := hP.1
  have qkd := hP.2.1
  have qlo := hP.2.2.1
  have qhi : ∀ j, hi j = -2000000005 ∨ (-20 ≤ hi j ∧ hi j ≤ 20) := hP.2.2.2.1
  have qnr := hR.1
  have qrk := hR.2.1
  have qnu := hR.2.2.1
  have qnu2 : ∀ j, -198 ≤ nu j ∧ nu j ≤ 198 := fun j => by have := qnu j; omega
  have qsa := hR.2.2.2.1
  have qct := hR.2.2.2.2
  have hbb := hbd.1
  have hbc9 := hbd.2.1
  have hbv := hbd.2.2
  have hbu9 : 0 < bu ∧ bu ≤ 8000000 := hbm.1
  have hbcm : -200000000000 ≤ bc ∧ bc ≤ 200000000000 := hbm.2.1
  have hbem : ∀ j, -200000000000 ≤ be j ∧ be j ≤ 200000000000 := hbm.2.2
  have hpb1 : 1 ≤ pu ∧ pu ≤ 2000000000 := by omega
  have hV := @IM_P D s A
  have hz1 : -2147483648 ≤ (xs (i + 1)).toInt ∧ (xs (i + 1)).toInt ≤ 2147483647 := i32_rng _
  have hz2 : -2147483648 ≤ (xs (i + 2)).toInt ∧ (xs (i + 2)).toInt ≤ 2147483647 := i32_rng _
  have hz3 : -2147483648 ≤ (xs (i + 3)).toInt ∧ (xs (i + 3)).toInt ≤ 2147483647 := i32_rng _
  obtain ⟨z1, hz1e⟩ : ∃ z, z = (xs (i + 1)).toInt := ⟨_, rfl⟩
  obtain ⟨z2, hz2e⟩ : ∃ z, z = (xs (i + 2)).toInt := ⟨_, rfl⟩
  obtain ⟨z3, hz3e⟩ : ∃ z, z = (xs (i + 3)).toInt := ⟨_, rfl⟩
  rw [← hz1e] at hz1
  rw [← hz2e] at hz2
  rw [← hz3e] at hz3
  by_cases h1 : (0 ≤ z1 ∧ z1 < (nc : Int)) ∧ ¬ z2 = z1 ∧ (z2 = -2000000005 ∨ (0 ≤ z2 ∧ z2 < (nc : Int)))
  · by_cases h2 : kd z1.toNat = 2
    · skip
      refine g_aload_n F 1 rfl rfl dL_law_234 ?_
      refine g_aload_n F 0 rfl rfl dL_law_235 ?_
      refine g_iload_n F 3 rfl rfl dL_law_236 ?_
      refine g_iconst F dL_law_237 ?_
      refine g_iadd F dL_law_238 ?_
      refine g_sld F hX hbl hbA (i + 1) (by omega) (by omega) (by omega) dL_law_239 ?_
      rw [← hz1e]
      refine g_aload_n F 0 rfl rfl dL_law_240 ?_
      refine g_iload_n F 3 rfl rfl dL_law_241 ?_
      refine g_iconst F dL_law_242 ?_
      refine g_iadd F dL_law_243 ?_
      refine g_sld F hX hbl hbA (i + 2) (by omega) (by omega) (by omega) dL_law_244 ?_
      rw [← hz2e]
      refine g_callVP F (As := [iv z1, iv z2]) (rest := []) (wr := wfl [wS cA se tbf (bSp X) (bSg X), wB cA bt (bBs X).1 (bBs X).2.1 (bBs X).2.2.1 (bBs X).2.2.2, wQ cA qr (tq 0) ql qc, wTS cA tq n1 S, wH cA hd pl pr pu qu, wMO cA md ((nc : Nat) : Int) ((nr : Nat) : Int) ke so bu bc pu qu fs cd un hb pf ef, wMP cA md kd lo hi co pa rk nu ct sa, wME cA md fr cs cn ck ch tb cr, wMX cA md fx fv sn, wMB cA md be tr wy, wMH cA md pl pr, poolE cA ad (bTb X) (fun _ => false) k]) (kX6_partner l D cA x (bt 0) (se 0) (qr 0) (hd 0) so pg kd lo hi co pa rk nu ct sa nc nr z1 z2 (by first | assumption | omega) (by first | assumption | omega) (by first | assumption | omega) (by first | assumption | omega) (by first | assumption | omega)) (cwV 2 F.2.2.2.2.1 gL_law_X6_partner rfl rfl rfl (by decide +kernel) ⟨(Nat.le_of_ble_eq_true rfl), (Nat.le_of_ble_eq_true rfl)⟩) rfl rfl (q0 := 0) rfl (wf_split (n := 14) (C := [wC cA x (pg 0) (bt 0) (se 0) (qr 0) (hd 0) so, wP cA pg kd lo hi co pa rk nu ct sa ((nc : Nat) : Int) ((nr : Nat) : Int)]) (R := [wS cA se tbf (bSp X) (bSg X), wB cA bt (bBs X).1 (bBs X).2.1 (bBs X).2.2.1 (bBs X).2.2.2, wQ cA qr (tq 0) ql qc, wTS cA tq n1 S, wH cA hd pl pr pu qu, wMO cA md ((nc : Nat) : Int) ((nr : Nat) : Int) ke so bu bc pu qu fs cd un hb pf ef, wMP cA md kd lo hi co pa rk nu ct sa, wME cA md fr cs cn ck ch tb cr, wMX cA md fx fv sn, wMB cA md be tr wy, wMH cA md pl pr, poolE cA ad (bTb X) (fun _ => false) k]) [0, 2, 1, 3, 4, 5, 6, 7, 8, 9, 10, 11, 12, 13] rfl (by decide) rfl) rfl rfl (Nat.le_of_ble_eq_true rfl) ⟨by show kc + 0 ≤ 600000; omega, by show ks + 0 ≤ 7302250; omega⟩ hA dL_law_245 (fun v w hv => ?_)
      obtain ⟨hv, hw⟩ := hv
      rw [if_pos h1, if_pos h2] at hv
      rw [if_pos ⟨h1, h2⟩] at hw
      subst hv
      subst hw
      refine g_perm (wfl [wC cA x (pg 0) (bt 0) (se 0) (qr 0) (hd 0) so, wS cA se tbf (bSp X) (bSg X), wP cA pg kd lo hi co (va_up pa z1.toNat z2) rk nu ct sa ((nc : Nat) : Int) ((nr : Nat) : Int), wB cA bt (bBs X).1 (bBs X).2.1 (bBs X).2.2.1 (bBs X).2.2.2, wQ cA qr (tq 0) ql qc, wTS cA tq n1 S, wH cA hd pl pr pu qu, wMO cA md ((nc : Nat) : Int) ((nr : Nat) : Int) ke so bu bc pu qu fs cd un hb pf ef, wMP cA md kd lo hi co pa rk nu ct sa, wME cA md fr cs cn ck ch tb cr, wMX cA md fx fv sn, wMB cA md be tr wy, wMH cA md pl pr, poolE cA ad (bTb X) (fun _ => false) k]) (wf_split (n := 14) (C := [wS cA se tbf (bSp X) (bSg X), wB cA bt (bBs X).1 (bBs X).2.1 (bBs X).2.2.1 (bBs X).2.2.2, wQ cA qr (tq 0) ql qc, wTS cA tq n1 S, wH cA hd pl pr pu qu, wMO cA md ((nc : Nat) : Int) ((nr : Nat) : Int) ke so bu bc pu qu fs cd un hb pf ef, wMP cA md kd lo hi co pa rk nu ct sa, wME cA md fr cs cn ck ch tb cr, wMX cA md fx fv sn, wMB cA md be tr wy, wMH cA md pl pr, poolE cA ad (bTb X) (fun _ => false) k]) (R := [wC cA x (pg 0) (bt 0) (se 0) (qr 0) (hd 0) so, wP cA pg kd lo hi co (va_up pa z1.toNat z2) rk nu ct sa ((nc : Nat) : Int) ((nr : Nat) : Int)]) [1, 3, 4, 5, 6, 7, 8, 9, 10, 11, 12, 13, 0, 2] rfl (by decide) rfl).symm ?_
      refine g_eq (st' := [iv (pa z1.toNat)]) rfl rfl rfl ?_
      refine g_aload_n F 2 rfl rfl dL_law_248 ?_
      refine g_aload_n F 0 rfl rfl dL_law_249 ?_
      refine g_iload_n F 3 rfl rfl dL_law_250 ?_
      refine g_iconst F dL_law_251 ?_
      refine g_iadd F dL_law_252 ?_
      refine g_sld F hX hbl hbA (i + 1) (by omega) (by omega) (by omega) dL_law_253 ?_
      rw [← hz1e]
      refine g_aload_n F 0 rfl rfl dL_law_254 ?_
      refine g_iload_n F 3 rfl rfl dL_law_255 ?_
      refine g_iconst F dL_law_256 ?_
      refine g_iadd F dL_law_257 ?_
      refine g_sld F hX hbl hbA (i + 2) (by omega) (by omega) (by omega) dL_law_258 ?_
      rw [← hz2e]
      refine g_callVP F (As := [iv z1, iv z2]) (rest := [iv (pa z1.toNat)]) (wr := wfl [wC cA x (pg 0) (bt 0) (se 0) (qr 0) (hd 0) so, wS cA se tbf (bSp X) (bSg X), wP cA pg kd lo hi co (va_up pa z1.toNat z2) rk nu ct sa ((nc : Nat) : Int) ((nr : Nat) : Int), wB cA bt (bBs X).1 (bBs X).2.1 (bBs X).2.2.1 (bBs X).2.2.2, wQ cA qr (tq 0) ql qc, wTS cA tq n1 S, wH cA hd pl pr pu qu, wME cA md fr cs cn ck ch tb cr, wMX cA md fx fv sn, wMB cA md be tr wy, wMH cA md pl pr, poolE cA ad (bTb X) (fun _ => false) k]) (kX7_partner l D cA md nc nr ke so bu bc pu qu fs cd un hb pf ef kd lo hi co pa rk nu ct sa z1 z2 (by first | assumption | omega) (by first | assumption | omega) (by first | assumption | omega) (by first | assumption | omega) (by first | assumption | omega)) (cwV 2 F.2.2.2.2.1 gL_law_X7_partner rfl rfl rfl (by decide +kernel) ⟨(Nat.le_of_ble_eq_true rfl), (Nat.le_of_ble_eq_true rfl)⟩) rfl rfl (q0 := 0) rfl (wf_split (n := 14) (C := [wMO cA md ((nc : Nat) : Int) ((nr : Nat) : Int) ke so bu bc pu qu fs cd un hb pf ef, wMP cA md kd lo hi co pa rk nu ct sa]) (R := [wC cA x (pg 0) (bt 0) (se 0) (qr 0) (hd 0) so, wS cA se tbf (bSp X) (bSg X), wP cA pg kd lo hi co (va_up pa z1.toNat z2) rk nu ct sa ((nc : Nat) : Int) ((nr : Nat) : Int), wB cA bt (bBs X).1 (bBs X).2.1 (bBs X).2.2.1 (bBs X).2.2.2, wQ cA qr (tq 0) ql qc, wTS cA tq n1 S, wH cA hd pl pr pu qu, wME cA md fr cs cn ck ch tb cr, wMX cA md fx fv sn, wMB cA md be tr wy, wMH cA md pl pr, poolE cA ad (bTb X) (fun _ => false) k]) [7, 8, 0, 1, 2, 3, 4, 5, 6, 9, 10, 11, 12, 13] rfl (by decide) rfl) rfl rfl (Nat.le_of_ble_eq_true rfl) ⟨by show kc + 0 ≤ 600000; omega, by show ks + 0 ≤ 7302250; omega⟩ hA dL_law_259 (fun v w hv => ?_)
      obtain ⟨hv, hw⟩ := hv
      rw [if_pos h1, if_pos h2] at hv
      rw [if_pos ⟨h1, h2⟩] at hw
      subst hv
      subst hw
      refine g_perm (wfl [wC cA x (pg 0) (bt 0) (se 0) (qr 0) (hd 0) so, wS cA se tbf (bSp X) (bSg X), wP cA pg kd lo hi co (va_up pa z1.toNat z2) rk nu ct sa ((nc : Nat) : Int) ((nr : Nat) : Int), wB cA bt (bBs X).1 (bBs X).2.1 (bBs X).2.2.1 (bBs X).2.2.2, wQ cA qr (tq 0) ql qc, wTS cA tq n1 S, wH cA hd pl pr pu qu, wMO cA md ((nc : Nat) : Int) ((nr : Nat) : Int) ke so bu bc pu qu fs cd un hb pf ef, wMP cA md kd lo hi co (va_up pa z1.toNat z2) rk nu ct sa, wME cA md fr cs cn ck ch tb cr, wMX cA md fx fv sn, wMB cA md be tr wy, wMH cA md pl pr, poolE cA ad (bTb X) (fun _ => false) k]) (wf_split (n := 14) (C := [wC cA x (pg 0) (bt 0) (se 0) (qr 0) (hd 0) so, wS cA se tbf (bSp X) (bSg X), wP cA pg kd lo hi co (va_up pa z1.toNat z2) rk nu ct sa ((nc : Nat) : Int) ((nr : Nat) : Int), wB cA bt (bBs X).1 (bBs X).2.1 (bBs X).2.2.1 (bBs X).2.2.2, wQ cA qr (tq 0) ql qc, wTS cA tq n1 S, wH cA hd pl pr pu qu, wME cA md fr cs cn ck ch tb cr, wMX cA md fx fv sn, wMB cA md be tr wy, wMH cA md pl pr, poolE cA ad (bTb X) (fun _ => false) k]) (R := [wMO cA md ((nc : Nat) : Int) ((nr : Nat) : Int) ke so bu bc pu qu fs cd un hb pf ef, wMP cA md kd lo hi co (va_up pa z1.toNat z2) rk nu ct sa]) [0, 1, 2, 3, 4, 5, 6, 9, 10, 11, 12, 13, 7, 8] rfl (by decide) rfl).symm ?_
      refine g_eq (st' := [iv (pa z1.toNat), iv (pa z1.toNat)]) rfl rfl rfl ?_
      refine g_ieq F (tgt := 887) (rfl) dL_law_262 (by decide) ?_
      refine g_widen (kc + 364) (ks + 8112) (by omega) (by omega) ?_
      exact hk kd lo hi co (va_up pa z1.toNat z2) rk nu ct sa nc nr so X k ad tbf ql qc n1 S pl pr pu qu ke bu bc fs cd un hb pf ef fr cs cn ck ch tb cr fx fv sn be tr wy (⟨pr_partner hpr0 (by omega) (by omega) h1.2.2, hI.2⟩)
    · skip
      refine g_aload_n F 1 rfl rfl dL_law_234 ?_
      refine g_aload_n F 0 rfl rfl dL_law_235 ?_
      refine g_iload_n F 3 rfl rfl dL_law_236 ?_
      refine g_iconst F dL_law_237 ?_
      refine g_iadd F dL_law_238 ?_
      refine g_sld F hX hbl hbA (i + 1) (by omega) (by omega) (by omega) dL_law_239 ?_
      rw [← hz1e]
      refine g_aload_n F 0 rfl rfl dL_law_240 ?_
      refine g_iload_n F 3 rfl rfl dL_law_241 ?_
      refine g_iconst F dL_law_242 ?_
      refine g_iadd F dL_law_243 ?_
      refine g_sld F hX hbl hbA (i + 2) (by omega) (by omega) (by omega) dL_law_244 ?_
      rw [← hz2e]
      refine g_callVP F (As := [iv z1, iv z2]) (rest := []) (wr := wfl [wS cA se tbf (bSp X) (bSg X), wB cA bt (bBs X).1 (bBs X).2.1 (bBs X).2.2.1 (bBs X).2.2.2, wQ cA qr (tq 0) ql qc, wTS cA tq n1 S, wH cA hd pl pr pu qu, wMO cA md ((nc : Nat) : Int) ((nr : Nat) : Int) ke so bu bc pu qu fs cd un hb pf ef, wMP cA md kd lo hi co pa rk nu ct sa, wME cA md fr cs cn ck ch tb cr, wMX cA md fx fv sn, wMB cA md be tr wy, wMH cA md pl pr, poolE cA ad (bTb X) (fun _ => false) k]) (kX6_partner l D cA x (bt 0) (se 0) (qr 0) (hd 0) so pg kd lo hi co pa rk nu ct sa nc nr z1 z2 (by first | assumption | omega) (by first | assumption | omega) (by first | assumption | omega) (by first | assumption | omega) (by first | assumption | omega)) (cwV 2 F.2.2.2.2.1 gL_law_X6_partner rfl rfl rfl (by decide +kernel) ⟨(Nat.le_of_ble_eq_true rfl), (Nat.le_of_ble_eq_true rfl)⟩) rfl rfl (q0 := 0) rfl (wf_split (n := 14) (C := [wC cA x (pg 0) (bt 0) (se 0) (qr 0) (hd 0) so, wP cA pg kd lo hi co pa rk nu ct sa ((nc : Nat) : Int) ((nr : Nat) : Int)]) (R := [wS cA se tbf (bSp X) (bSg X), wB cA bt (bBs X).1 (bBs X).2.1 (bBs X).2.2.1 (bBs X).2.2.2, wQ cA qr (tq 0) ql qc, wTS cA tq n1 S, wH cA hd pl pr pu qu, wMO cA md ((nc : Nat) : Int) ((nr : Nat) : Int) ke so bu bc pu qu fs cd un hb pf ef, wMP cA md kd lo hi co pa rk nu ct sa, wME cA md fr cs cn ck ch tb cr, wMX cA md fx fv sn, wMB cA md be tr wy, wMH cA md pl pr, poolE cA ad (bTb X) (fun _ => false) k]) [0, 2, 1, 3, 4, 5, 6, 7, 8, 9, 10, 11, 12, 13] rfl (by decide) rfl) rfl rfl (Nat.le_of_ble_eq_true rfl) ⟨by show kc + 0 ≤ 600000; omega, by show ks + 0 ≤ 7302250; omega⟩ hA dL_law_245 (fun v w hv => ?_)
      obtain ⟨hv, hw⟩ := hv
      rw [if_pos h1, if_neg h2] at hv
      rw [if_neg (fun z => h2 z.2)] at hw
      subst hv
      subst hw
      refine g_perm (wfl [wC cA x (pg 0) (bt 0) (se 0) (qr 0) (hd 0) so, wS cA se tbf (bSp X) (bSg X), wP cA pg kd lo hi co pa rk nu ct sa ((nc : Nat) : Int) ((nr : Nat) : Int), wB cA bt (bBs X).1 (bBs X).2.1 (bBs X).2.2.1 (bBs X).2.2.2, wQ cA qr (tq 0) ql qc, wTS cA tq n1 S, wH cA hd pl pr pu qu, wMO cA md ((nc : Nat) : Int) ((nr : Nat) : Int) ke so bu bc pu qu fs cd un hb pf ef, wMP cA md kd lo hi co pa rk nu ct sa, wME cA md fr cs cn ck ch tb cr, wMX cA md fx fv sn, wMB cA md be tr wy, wMH cA md pl pr, poolE cA ad (bTb X) (fun _ => false) k]) (wf_split (n := 14) (C := [wS cA se tbf (bSp X) (bSg X), wB cA bt (bBs X).1 (bBs X).2.1 (bBs X).2.2.1 (bBs X).2.2.2, wQ cA qr (tq 0) ql qc, wTS cA tq n1 S, wH cA hd pl pr pu qu, wMO cA md ((nc : Nat) : Int) ((nr : Nat) : Int) ke so bu bc pu qu fs cd un hb pf ef, wMP cA md kd lo hi co pa rk nu ct sa, wME cA md fr cs cn ck ch tb cr, wMX cA md fx fv sn, wMB cA md be tr wy, wMH cA md pl pr, poolE cA ad (bTb X) (fun _ => false) k]) (R := [wC cA x (pg 0) (bt 0) (se 0) (qr 0) (hd 0) so, wP cA pg kd lo hi co pa rk nu ct sa ((nc : Nat) : Int) ((nr : Nat) : Int)]) [1, 3, 4, 5, 6, 7, 8, 9, 10, 11, 12, 13, 0, 2] rfl (by decide) rfl).symm ?_
      refine g_eq (st' := [iv (-2000000002)]) rfl rfl rfl ?_
      refine g_aload_n F 2 rfl rfl dL_law_248 ?_
      refine g_aload_n F 0 rfl rfl dL_law_249 ?_
      refine g_iload_n F 3 rfl rfl dL_law_250 ?_
      refine g_iconst F dL_law_251 ?_
      refine g_iadd F dL_law_252 ?_
      refine g_sld F hX hbl hbA (i + 1) (by omega) (by omega) (by omega) dL_law_253 ?_
      rw [← hz1e]
      refine g_aload_n F 0 rfl rfl dL_law_254 ?_
      refine g_iload_n F 3 rfl rfl dL_law_255 ?_
      refine g_iconst F dL_law_256 ?_
      refine g_iadd F dL_law_257 ?_
      refine g_sld F hX hbl hbA (i + 2) (by omega) (by omega) (by omega) dL_law_258 ?_
      rw [← hz2e]
      refine g_callVP F (As := [iv z1, iv z2]) (rest := [iv (-2000000002)]) (wr := wfl [wC cA x (pg 0) (bt 0) (se 0) (qr 0) (hd 0) so, wS cA se tbf (bSp X) (bSg X), wP cA pg kd lo hi co pa rk nu ct sa ((nc : Nat) : Int) ((nr : Nat) : Int), wB cA bt (bBs X).1 (bBs X).2.1 (bBs X).2.2.1 (bBs X).2.2.2, wQ cA qr (tq 0) ql qc, wTS cA tq n1 S, wH cA hd pl pr pu qu, wME cA md fr cs cn ck ch tb cr, wMX cA md fx fv sn, wMB cA md be tr wy, wMH cA md pl pr, poolE cA ad (bTb X) (fun _ => false) k]) (kX7_partner l D cA md nc nr ke so bu bc pu qu fs cd un hb pf ef kd lo hi co pa rk nu ct sa z1 z2 (by first | assumption | omega) (by first | assumption | omega) (by first | assumption | omega) (by first | assumption | omega) (by first | assumption | omega)) (cwV 2 F.2.2.2.2.1 gL_law_X7_partner rfl rfl rfl (by decide +kernel) ⟨(Nat.le_of_ble_eq_true rfl), (Nat.le_of_ble_eq_true rfl)⟩) rfl rfl (q0 := 0) rfl (wf_split (n := 14) (C := [wMO cA md ((nc : Nat) : Int) ((nr : Nat) : Int) ke so bu bc pu qu fs cd un hb pf ef, wMP cA md kd lo hi co pa rk nu ct sa]) (R := [wC cA x (pg 0) (bt 0) (se 0) (qr 0) (hd 0) so, wS cA se tbf (bSp X) (bSg X), wP cA pg kd lo hi co pa rk nu ct sa ((nc : Nat) : Int) ((nr : Nat) : Int), wB cA bt (bBs X).1 (bBs X).2.1 (bBs X).2.2.1 (bBs X).2.2.2, wQ cA qr (tq 0) ql qc, wTS cA tq n1 S, wH cA hd pl pr pu qu, wME cA md fr cs cn ck ch tb cr, wMX cA md fx fv sn, wMB cA md be tr wy, wMH cA md pl pr, poolE cA ad (bTb X) (fun _ => false) k]) [7, 8, 0, 1, 2, 3, 4, 5, 6, 9, 10, 11, 12, 13] rfl (by decide) rfl) rfl rfl (Nat.le_of_ble_eq_true rfl) ⟨by show kc + 0 ≤ 600000; omega, by show ks + 0 ≤ 7302250; omega⟩ hA dL_law_259 (fun v w hv => ?_)
      obtain ⟨hv, hw⟩ := hv
      rw [if_pos h1, if_neg h2] at hv
      rw [if_neg (fun z => h2 z.2)] at hw
      subst hv
      subst hw
      refine g_perm (wfl [wC cA x (pg 0) (bt 0) (se 0) (qr 0) (hd 0) so, wS cA se tbf (bSp X) (bSg X), wP cA pg kd lo hi co pa rk nu ct sa ((nc : Nat) : Int) ((nr : Nat) : Int), wB cA bt (bBs X).1 (bBs X).2.1 (bBs X).2.2.1 (bBs X).2.2.2, wQ cA qr (tq 0) ql qc, wTS cA tq n1 S, wH cA hd pl pr pu qu, wMO cA md ((nc : Nat) : Int) ((nr : Nat) : Int) ke so bu bc pu qu fs cd un hb pf ef, wMP cA md kd lo hi co pa rk nu ct sa, wME cA md fr cs cn ck ch tb cr, wMX cA md fx fv sn, wMB cA md be tr wy, wMH cA md pl pr, poolE cA ad (bTb X) (fun _ => false) k]) (wf_split (n := 14) (C := [wC cA x (pg 0) (bt 0) (se 0) (qr 0) (hd 0) so, wS cA se tbf (bSp X) (bSg X), wP cA pg kd lo hi co pa rk nu ct sa ((nc : Nat) : Int) ((nr : Nat) : Int), wB cA bt (bBs X).1 (bBs X).2.1 (bBs X).2.2.1 (bBs X).2.2.2, wQ cA qr (tq 0) ql qc, wTS cA tq n1 S, wH cA hd pl pr pu qu, wME cA md fr cs cn ck ch tb cr, wMX cA md fx fv sn, wMB cA md be tr wy, wMH cA md pl pr, poolE cA ad (bTb X) (fun _ => false) k]) (R := [wMO cA md ((nc : Nat) : Int) ((nr : Nat) : Int) ke so bu bc pu qu fs cd un hb pf ef, wMP cA md kd lo hi co pa rk nu ct sa]) [0, 1, 2, 3, 4, 5, 6, 9, 10, 11, 12, 13, 7, 8] rfl (by decide) rfl).symm ?_
      refine g_eq (st' := [iv (-2000000002), iv (-2000000002)]) rfl rfl rfl ?_
      refine g_ieq F (tgt := 887) (rfl) dL_law_262 (by decide) ?_
      refine g_widen (kc + 364) (ks + 8112) (by omega) (by omega) ?_
      exact hk kd lo hi co pa rk nu ct sa nc nr so X k ad tbf ql qc n1 S pl pr pu qu ke bu bc fs cd un hb pf ef fr cs cn ck ch tb cr fx fv sn be tr wy (hI)
  · skip
    refine g_aload_n F 1 rfl rfl dL_law_234 ?_
    refine g_aload_n F 0 rfl rfl dL_law_235 ?_
    refine g_iload_n F 3 rfl rfl dL_law_236 ?_
    refine g_iconst F dL_law_237 ?_
    refine g_iadd F dL_law_238 ?_
    refine g_sld F hX hbl hbA (i + 1) (by omega) (by omega) (by omega) dL_law_239 ?_
    rw [← hz1e]
    refine g_aload_n F 0 rfl rfl dL_law_240 ?_
    refine g_iload_n F 3 rfl rfl dL_law_241 ?_
    refine g_iconst F dL_law_242 ?_
    refine g_iadd F dL_law_243 ?_
    refine g_sld F hX hbl hbA (i + 2) (by omega) (by omega) (by omega) dL_law_244 ?_
    rw [← hz2e]
    refine g_callVP F (As := [iv z1, iv z2]) (rest := []) (wr := wfl [wS cA se tbf (bSp X) (bSg X), wB cA bt (bBs X).1 (bBs X).2.1 (bBs X).2.2.1 (bBs X).2.2.2, wQ cA qr (tq 0) ql qc, wTS cA tq n1 S, wH cA hd pl pr pu qu, wMO cA md ((nc : Nat) : Int) ((nr : Nat) : Int) ke so bu bc pu qu fs cd un hb pf ef, wMP cA md kd lo hi co pa rk nu ct sa, wME cA md fr cs cn ck ch tb cr, wMX cA md fx fv sn, wMB cA md be tr wy, wMH cA md pl pr, poolE cA ad (bTb X) (fun _ => false) k]) (kX6_partner l D cA x (bt 0) (se 0) (qr 0) (hd 0) so pg kd lo hi co pa rk nu ct sa nc nr z1 z2 (by first | assumption | omega) (by first | assumption | omega) (by first | assumption | omega) (by first | assumption | omega) (by first | assumption | omega)) (cwV 2 F.2.2.2.2.1 gL_law_X6_partner rfl rfl rfl (by decide +kernel) ⟨(Nat.le_of_ble_eq_true rfl), (Nat.le_of_ble_eq_true rfl)⟩) rfl rfl (q0 := 0) rfl (wf_split (n := 14) (C := [wC cA x (pg 0) (bt 0) (se 0) (qr 0) (hd 0) so, wP cA pg kd lo hi co pa rk nu ct sa ((nc : Nat) : Int) ((nr : Nat) : Int)]) (R := [wS cA se tbf (bSp X) (bSg X), wB cA bt (bBs X).1 (bBs X).2.1 (bBs X).2.2.1 (bBs X).2.2.2, wQ cA qr (tq 0) ql qc, wTS cA tq n1 S, wH cA hd pl pr pu qu, wMO cA md ((nc : Nat) : Int) ((nr : Nat) : Int) ke so bu bc pu qu fs cd un hb pf ef, wMP cA md kd lo hi co pa rk nu ct sa, wME cA md fr cs cn ck ch tb cr, wMX cA md fx fv sn, wMB cA md be tr wy, wMH cA md pl pr, poolE cA ad (bTb X) (fun _ => false) k]) [0, 2, 1, 3, 4, 5, 6, 7, 8, 9, 10, 11, 12, 13] rfl (by decide) rfl) rfl rfl (Nat.le_of_ble_eq_true rfl) ⟨by show kc + 0 ≤ 600000; omega, by show ks + 0 ≤ 7302250; omega⟩ hA dL_law_245 (fun v w hv => ?_)
    obtain ⟨hv, hw⟩ := hv
    rw [if_neg h1] at hv
    rw [if_neg (fun z => h1 z.1)] at hw
    subst hv
    subst hw
    refine g_perm (wfl [wC cA x (pg 0) (bt 0) (se 0) (qr 0) (hd 0) so, wS cA se tbf (bSp X) (bSg X), wP cA pg kd lo hi co pa rk nu ct sa ((nc : Nat) : Int) ((nr : Nat) : Int), wB cA bt (bBs X).1 (bBs X).2.1 (bBs X).2.2.1 (bBs X).2.2.2, wQ cA qr (tq 0) ql qc, wTS cA tq n1 S, wH cA hd pl pr pu qu, wMO cA md ((nc : Nat) : Int) ((nr : Nat) : Int) ke so bu bc pu qu fs cd un hb pf ef, wMP cA md kd lo hi co pa rk nu ct sa, wME cA md fr cs cn ck ch tb cr, wMX cA md fx fv sn, wMB cA md be tr wy, wMH cA md pl pr, poolE cA ad (bTb X) (fun _ => false) k]) (wf_split (n := 14) (C := [wS cA se tbf (bSp X) (bSg X), wB cA bt (bBs X).1 (bBs X).2.1 (bBs X).2.2.1 (bBs X).2.2.2, wQ cA qr (tq 0) ql qc, wTS cA tq n1 S, wH cA hd pl pr pu qu, wMO cA md ((nc : Nat) : Int) ((nr : Nat) : Int) ke so bu bc pu qu fs cd un hb pf ef, wMP cA md kd lo hi co pa rk nu ct sa, wME cA md fr cs cn ck ch tb cr, wMX cA md fx fv sn, wMB cA md be tr wy, wMH cA md pl pr, poolE cA ad (bTb X) (fun _ => false) k]) (R := [wC cA x (pg 0) (bt 0) (se 0) (qr 0) (hd 0) so, wP cA pg kd lo hi co pa rk nu ct sa ((nc : Nat) : Int) ((nr : Nat) : Int)]) [1, 3, 4, 5, 6, 7, 8, 9, 10, 11, 12, 13, 0, 2] rfl (by decide) rfl).symm ?_
    refine g_eq (st' := [iv (-2000000001)]) rfl rfl rfl ?_
    refine g_aload_n F 2 rfl rfl dL_law_248 ?_
    refine g_aload_n F 0 rfl rfl dL_law_249 ?_
    refine g_iload_n F 3 rfl rfl dL_law_250 ?_
    refine g_iconst F dL_law_251 ?_
    refine g_iadd F dL_law_252 ?_
    refine g_sld F hX hbl hbA (i + 1) (by omega) (by omega) (by omega) dL_law_253 ?_
    rw [← hz1e]
    refine g_aload_n F 0 rfl rfl dL_law_254 ?_
    refine g_iload_n F 3 rfl rfl dL_law_255 ?_
    refine g_iconst F dL_law_256 ?_
    refine g_iadd F dL_law_257 ?_
    refine g_sld F hX hbl hbA (i + 2) (by omega) (by omega) (by omega) dL_law_258 ?_
    rw [← hz2e]
    refine g_callVP F (As := [iv z1, iv z2]) (rest := [iv (-2000000001)]) (wr := wfl [wC cA x (pg 0) (bt 0) (se 0) (qr 0) (hd 0) so, wS cA se tbf (bSp X) (bSg X), wP cA pg kd lo hi co pa rk nu ct sa ((nc : Nat) : Int) ((nr : Nat) : Int), wB cA bt (bBs X).1 (bBs X).2.1 (bBs X).2.2.1 (bBs X).2.2.2, wQ cA qr (tq 0) ql qc, wTS cA tq n1 S, wH cA hd pl pr pu qu, wME cA md fr cs cn ck ch tb cr, wMX cA md fx fv sn, wMB cA md be tr wy, wMH cA md pl pr, poolE cA ad (bTb X) (fun _ => false) k]) (kX7_partner l D cA md nc nr ke so bu bc pu qu fs cd un hb pf ef kd lo hi co pa rk nu ct sa z1 z2 (by first | assumption | omega) (by first | assumption | omega) (by first | assumption | omega) (by first | assumption | omega) (by first | assumption | omega)) (cwV 2 F.2.2.2.2.1 gL_law_X7_partner rfl rfl rfl (by decide +kernel) ⟨(Nat.le_of_ble_eq_true rfl), (Nat.le_of_ble_eq_true rfl)⟩) rfl rfl (q0 := 0) rfl (wf_split (n := 14) (C := [wMO cA md ((nc : Nat) : Int) ((nr : Nat) : Int) ke so bu bc pu qu fs cd un hb pf ef, wMP cA md kd lo hi co pa rk nu ct sa]) (R := [wC cA x (pg 0) (bt 0) (se 0) (qr 0) (hd 0) so, wS cA se tbf (bSp X) (bSg X), wP cA pg kd lo hi co pa rk nu ct sa ((nc : Nat) : Int) ((nr : Nat) : Int), wB cA bt (bBs X).1 (bBs X).2.1 (bBs X).2.2.1 (bBs X).2.2.2, wQ cA qr (tq 0) ql qc, wTS cA tq n1 S, wH cA hd pl pr pu qu, wME cA md fr cs cn ck ch tb cr, wMX cA md fx fv sn, wMB cA md be tr wy, wMH cA md pl pr, poolE cA ad (bTb X) (fun _ => false) k]) [7, 8, 0, 1, 2, 3, 4, 5, 6, 9, 10, 11, 12, 13] rfl (by decide) rfl) rfl rfl (Nat.le_of_ble_eq_true rfl) ⟨by show kc + 0 ≤ 600000; omega, by show ks + 0 ≤ 7302250; omega⟩ hA dL_law_259 (fun v w hv => ?_)
    obtain ⟨hv, hw⟩ := hv
    rw [if_neg h1] at hv
    rw [if_neg (fun z => h1 z.1)] at hw
    subst hv
    subst hw
    refine g_perm (wfl [wC cA x (pg 0) (bt 0) (se 0) (qr 0) (hd 0) so, wS cA se tbf (bSp X) (bSg X), wP cA pg kd lo hi co pa rk nu ct sa ((nc : Nat) : Int) ((nr : Nat) : Int), wB cA bt (bBs X).1 (bBs X).2.1 (bBs X).2.2.1 (bBs X).2.2.2, wQ cA qr (tq 0) ql qc, wTS cA tq n1 S, wH cA hd pl pr pu qu, wMO cA md ((nc : Nat) : Int) ((nr : Nat) : Int) ke so bu bc pu qu fs cd un hb pf ef, wMP cA md kd lo hi co pa rk nu ct sa, wME cA md fr cs cn ck ch tb cr, wMX cA md fx fv sn, wMB cA md be tr wy, wMH cA md pl pr, poolE cA ad (bTb X) (fun _ => false) k]) (wf_split (n := 14) (C := [wC cA x (pg 0) (bt 0) (se 0) (qr 0) (hd 0) so, wS cA se tbf (bSp X) (bSg X), wP cA pg kd lo hi co pa rk nu ct sa ((nc : Nat) : Int) ((nr : Nat) : Int), wB cA bt (bBs X).1 (bBs X).2.1 (bBs X).2.2.1 (bBs X).2.2.2, wQ cA qr (tq 0) ql qc, wTS cA tq n1 S, wH cA hd pl pr pu qu, wME cA md fr cs cn ck ch tb cr, wMX cA md fx fv sn, wMB cA md be tr wy, wMH cA md pl pr, poolE cA ad (bTb X) (fun _ => false) k]) (R := [wMO cA md ((nc : Nat) : Int) ((nr : Nat) : Int) ke so bu bc pu qu fs cd un hb pf ef, wMP cA md kd lo hi co pa rk nu ct sa]) [0, 1, 2, 3, 4, 5, 6, 9, 10, 11, 12, 13, 7, 8] rfl (by decide) rfl).symm ?_
    refine g_eq (st' := [iv (-2000000001), iv (-2000000001)]) rfl rfl rfl ?_
    refine g_ieq F (tgt := 887) (rfl) dL_law_262 (by decide) ?_
    refine g_widen (kc + 364) (ks + 8112) (by omega) (by omega) ?_
    exact hk kd lo hi co pa rk nu ct sa nc nr so X k ad tbf ql qc n1 S pl pr pu qu ke bu bc fs cd un hb pf ef fr cs cn ck ch tb cr fx fv sn be tr wy (hI)

set_option maxHeartbeats 4000000 in
set_option maxRecDepth 100000 in
theorem lc_bound {p : Program} {l : Launch} {e : Env} {s : State} {m : MethodId} {below : List Frame} {meth : Method} {c : Code} {Q : State → Prop} {D : va_G} {cA : Nat → ClassId} {A : Nat → Prop} {sb Ln : Nat} {xs : Nat → Int32} {x se pg bt qr tq hd md : Nat → Nat} (F : Fx p s m #[Value.ref sb] meth c cL_law 4 RL wsL_law ret D cA) (hA : ∀ q, s.heap.size ≤ q → A q) (hX : va_X sb Ln xs s s.heap) (hbl : sb < s.heap.size) (hbA : ¬ A sb) (hL : Ln ≤ 2048) (i : Nat) (hi : i + 4 ≤ Ln) (kc ks : Nat) (hkc : kc + 364 ≤ 600000 ∧ ks + 8112 ≤ 7302250) (hk : lwN p l e s m sb below meth c Q D cA A x se pg bt qr tq hd md i (kc + 364) (ks + 8112) 887) : lwN p l e s m sb below meth c Q D cA A x se pg bt qr tq hd md i kc ks 191 := by
  intro kd lo hi co pa rk nu ct sa nc nr so X k ad tbf ql qc n1 S pl pr pu qu ke bu bc fs cd un hb pf ef fr cs cn ck ch tb cr fx fv sn be tr wy hI
  obtain ⟨hpr0, ⟨hS, hbd, hbo, hk51, ht1, ht2, h00⟩, ⟨hSq, hzq⟩, ⟨hpl, hpb, hpr, hqb⟩, ⟨hbm, hke⟩, hrel⟩ := id hI
  obtain ⟨hP, hR, hco, hpa5, hpaN, hle, zs, zc⟩ := id hpr0
  have qnc := hP.1
  have qkd := hP.2.1
  have qlo := hP.2.2.1
  have qhi : ∀ j, hi j = -2000000005 ∨ (-20 ≤ hi j ∧ hi j ≤ 20) := hP.2.2.2.1
  have qnr := hR.1
  have qrk := hR.2.1
  have qnu := hR.2.2.1
  have qnu2 : ∀ j, -198 ≤ nu j ∧ nu j ≤ 198 := fun j => by have := qnu j; omega
  have qsa := hR.2.2.2.1
  have qct := hR.2.2.2.2
  have hbb := hbd.1
  have hbc9 := hbd.2.1
  have hbv := hbd.2.2
  have hbu9 : 0 < bu ∧ bu ≤ 8000000 := hbm.1
  have hbcm : -200000000000 ≤ bc ∧ bc ≤ 200000000000 := hbm.2.1
  have hbem : ∀ j, -200000000000 ≤ be j ∧ be j ≤ 200000000000 := hbm.2.2
  have hpb1 : 1 ≤ pu ∧ pu ≤ 2000000000 := by omega
  have hV := @IM_P D s A
  have hz1 : -2147483648 ≤ (xs (i + 1)).toInt ∧ (xs (i + 1)).toInt ≤ 2147483647 := i32_rng _
  have hz2 : -2147483648 ≤ (xs (i + 2)).toInt ∧ (xs (i + 2)).toInt ≤ 2147483647 := i32_rng _
  have hz3 : -2147483648 ≤ (xs (i + 3)).toInt ∧ (xs (i + 3)).toInt ≤ 2147483647 := i32_rng _
  obtain ⟨z1, hz1e⟩ : ∃ z, z = (xs (i + 1)).toInt := ⟨_, rfl⟩
  obtain ⟨z2, hz2e⟩ : ∃ z, z = (xs (i + 2)).toInt := ⟨_, rfl⟩
  obtain ⟨z3, hz3e⟩ : ∃ z, z = (xs (i + 3)).toInt := ⟨_, rfl⟩
  rw [← hz1e] at hz1
  rw [← hz2e] at hz2
  rw [← hz3e] at hz3
  by_cases h1 : 0 ≤ z1 ∧ z1 < (nc : Int)
  · by_cases h2 : kd z1.toNat = 2
    · skip
      refine g_aload_n F 1 rfl rfl dL_law_191 ?_
      refine g_aload_n F 0 rfl rfl dL_law_192 ?_
      refine g_iload_n F 3 rfl rfl dL_law_193 ?_
      refine g_iconst F dL_law_194 ?_
      refine g_iadd F dL_law_195 ?_
      refine g_sld F hX hbl hbA (i + 1) (by omega) (by omega) (by omega) dL_law_196 ?_
      rw [← hz1e]
      refine g_aload_n F 0 rfl rfl dL_law_197 ?_
      refine g_iload_n F 3 rfl rfl dL_law_198 ?_
      refine g_iconst F dL_law_199 ?_
      refine g_iadd F dL_law_200 ?_
      refine g_sld F hX hbl hbA (i + 2) (by omega) (by omega) (by omega) dL_law_201 ?_
      rw [← hz2e]
      refine g_aload_n F 0 rfl rfl dL_law_202 ?_
      refine g_iload_n F 3 rfl rfl dL_law_203 ?_
      refine g_iconst F dL_law_204 ?_
      refine g_iadd F dL_law_205 ?_
      refine g_sld F hX hbl hbA (i + 3) (by omega) (by omega) (by omega) dL_law_206 ?_
      rw [← hz3e]
      refine g_callVP F (As := [iv z1, iv z2, iv z3]) (rest := []) (wr := wfl [wS cA se tbf (bSp X) (bSg X), wB cA bt (bBs X).1 (bBs X).2.1 (bBs X).2.2.1 (bBs X).2.2.2, wQ cA qr (tq 0) ql qc, wTS cA tq n1 S, wH cA hd pl pr pu qu, wMO cA md ((nc : Nat) : Int) ((nr : Nat) : Int) ke so bu bc pu qu fs cd un hb pf ef, wMP cA md kd lo hi co pa rk nu ct sa, wME cA md fr cs cn ck ch tb cr, wMX cA md fx fv sn, wMB cA md be tr wy, wMH cA md pl pr, poolE cA ad (bTb X) (fun _ => false) k]) (kX6_bound l D cA x (bt 0) (se 0) (qr 0) (hd 0) so pg kd lo hi co pa rk nu ct sa nc nr z1 z2 z3 (by first | assumption | omega) (by first | assumption | omega) (by first | assumption | omega) (by first | assumption | omega) (by first | assumption | omega) (by first | assumption | omega)) (cwV 3 F.2.2.2.2.1 gL_law_X6_bound rfl rfl rfl (by decide +kernel) ⟨(Nat.le_of_ble_eq_true rfl), (Nat.le_of_ble_eq_true rfl)⟩) rfl rfl (q0 := 0) rfl (wf_split (n := 14) (C := [wC cA x (pg 0) (bt 0) (se 0) (qr 0) (hd 0) so, wP cA pg kd lo hi co pa rk nu ct sa ((nc : Nat) : Int) ((nr : Nat) : Int)]) (R := [wS cA se tbf (bSp X) (bSg X), wB cA bt (bBs X).1 (bBs X).2.1 (bBs X).2.2.1 (bBs X).2.2.2, wQ cA qr (tq 0) ql qc, wTS cA tq n1 S, wH cA hd pl pr pu qu, wMO cA md ((nc : Nat) : Int) ((nr : Nat) : Int) ke so bu bc pu qu fs cd un hb pf ef, wMP cA md kd lo hi co pa rk nu ct sa, wME cA md fr cs cn ck ch tb cr, wMX cA md fx fv sn, wMB cA md be tr wy, wMH cA md pl pr, poolE cA ad (bTb X) (fun _ => false) k]) [0, 2, 1, 3, 4, 5, 6, 7, 8, 9, 10, 11, 12, 13] rfl (by decide) rfl) rfl rfl (Nat.le_of_ble_eq_true rfl) ⟨by show kc + 0 ≤ 600000; omega, by show ks + 0 ≤ 7302250; omega⟩ hA dL_law_207 (fun v w hv => ?_)
      obtain ⟨hv, hw⟩ := hv
      rw [if_pos h1, if_pos h2] at hv
      rw [if_neg (fun z => z.2.1 h2)] at hw
      subst hv
      subst hw
      refine g_perm (wfl [wC cA x (pg 0) (bt 0) (se 0) (qr 0) (hd 0) so, wS cA se tbf (bSp X) (bSg X), wP cA pg kd lo hi co pa rk nu ct sa ((nc : Nat) : Int) ((nr : Nat) : Int), wB cA bt (bBs X).1 (bBs X).2.1 (bBs X).2.2.1 (bBs X).2.2.2, wQ cA qr (tq 0) ql qc, wTS cA tq n1 S, wH cA hd pl pr pu qu, wMO cA md ((nc : Nat) : Int) ((nr : Nat) : Int) ke so bu bc pu qu fs cd un hb pf ef, wMP cA md kd lo hi co pa rk nu ct sa, wME cA md fr cs cn ck ch tb cr, wMX cA md fx fv sn, wMB cA md be tr wy, wMH cA md pl pr, poolE cA ad (bTb X) (fun _ => false) k]) (wf_split (n := 14) (C := [wS cA se tbf (bSp X) (bSg X), wB cA bt (bBs X).1 (bBs X).2.1 (bBs X).2.2.1 (bBs X).2.2.2, wQ cA qr (tq 0) ql qc, wTS cA tq n1 S, wH cA hd pl pr pu qu, wMO cA md ((nc : Nat) : Int) ((nr : Nat) : Int) ke so bu bc pu qu fs cd un hb pf ef, wMP cA md kd lo hi co pa rk nu ct sa, wME cA md fr cs cn ck ch tb cr, wMX cA md fx fv sn, wMB cA md be tr wy, wMH cA md pl pr, poolE cA ad (bTb X) (fun _ => false) k]) (R := [wC cA x (pg 0) (bt 0) (se 0) (qr 0) (hd 0) so, wP cA pg kd lo hi co pa rk nu ct sa ((nc : Nat) : Int) ((nr : Nat) : Int)]) [1, 3, 4, 5, 6, 7, 8, 9, 10, 11, 12, 13, 0, 2] rfl (by decide) rfl).symm ?_
      refine g_eq (st' := [iv (-2000000002)]) rfl rfl rfl ?_
      refine g_aload_n F 2 rfl rfl dL_law_210 ?_
      refine g_aload_n F 0 rfl rfl dL_law_211 ?_
      refine g_iload_n F 3 rfl rfl dL_law_212 ?_
      refine g_iconst F dL_law_213 ?_
      refine g_iadd F dL_law_214 ?_
      refine g_sld F hX hbl hbA (i + 1) (by omega) (by omega) (by omega) dL_law_215 ?_
      rw [← hz1e]
      refine g_aload_n F 0 rfl rfl dL_law_216 ?_
      refine g_iload_n F 3 rfl rfl dL_law_217 ?_
      refine g_iconst F dL_law_218 ?_
      refine g_iadd F dL_law_219 ?_
      refine g_sld F hX hbl hbA (i + 2) (by omega) (by omega) (by omega) dL_law_220 ?_
      rw [← hz2e]
      refine g_aload_n F 0 rfl rfl dL_law_221 ?_
      refine g_iload_n F 3 rfl rfl dL_law_222 ?_
      refine g_iconst F dL_law_223 ?_
      refine g_iadd F dL_law_224 ?_
      refine g_sld F hX hbl hbA (i + 3) (by omega) (by omega) (by omega) dL_law_225 ?_
      rw [← hz3e]
      refine g_callVP F (As := [iv z1, iv z2, iv z3]) (rest := [iv (-2000000002)]) (wr := wfl [wC cA x (pg 0) (bt 0) (se 0) (qr 0) (hd 0) so, wS cA se tbf (bSp X) (bSg X), wP cA pg kd lo hi co pa rk nu ct sa ((nc : Nat) : Int) ((nr : Nat) : Int), wB cA bt (bBs X).1 (bBs X).2.1 (bBs X).2.2.1 (bBs X).2.2.2, wQ cA qr (tq 0) ql qc, wTS cA tq n1 S, wH cA hd pl pr pu qu, wME cA md fr cs cn ck ch tb cr, wMX cA md fx fv sn, wMB cA md be tr wy, wMH cA md pl pr, poolE cA ad (bTb X) (fun _ => false) k]) (kX7_bound l D cA md nc nr ke so bu bc pu qu fs cd un hb pf ef kd lo hi co pa rk nu ct sa z1 z2 z3 (by first | assumption | omega) (by first | assumption | omega) (by first | assumption | omega) (by first | assumption | omega) (by first | assumption | omega) (by first | assumption | omega)) (cwV 3 F.2.2.2.2.1 gL_law_X7_bound rfl rfl rfl (by decide +kernel) ⟨(Nat.le_of_ble_eq_true rfl), (Nat.le_of_ble_eq_true rfl)⟩) rfl rfl (q0 := 0) rfl (wf_split (n := 14) (C := [wMO cA md ((nc : Nat) : Int) ((nr : Nat) : Int) ke so bu bc pu qu fs cd un hb pf ef, wMP cA md kd lo hi co pa rk nu ct sa]) (R := [wC cA x (pg 0) (bt 0) (se 0) (qr 0) (hd 0) so, wS cA se tbf (bSp X) (bSg X), wP cA pg kd lo hi co pa rk nu ct sa ((nc : Nat) : Int) ((nr : Nat) : Int), wB cA bt (bBs X).1 (bBs X).2.1 (bBs X).2.2.1 (bBs X).2.2.2, wQ cA qr (tq 0) ql qc, wTS cA tq n1 S, wH cA hd pl pr pu qu, wME cA md fr cs cn ck ch tb cr, wMX cA md fx fv sn, wMB cA md be tr wy, wMH cA md pl pr, poolE cA ad (bTb X) (fun _ => false) k]) [7, 8, 0, 1, 2, 3, 4, 5, 6, 9, 10, 11, 12, 13] rfl (by decide) rfl) rfl rfl (Nat.le_of_ble_eq_true rfl) ⟨by show kc + 0 ≤ 600000; omega, by show ks + 0 ≤ 7302250; omega⟩ hA dL_law_226 (fun v w hv => ?_)
      obtain ⟨hv, hw⟩ := hv
      rw [if_pos h1, if_pos h2] at hv
      rw [if_neg (fun z => z.2.1 h2)] at hw
      subst hv
      subst hw
      refine g_perm (wfl [wC cA x (pg 0) (bt 0) (se 0) (qr 0) (hd 0) so, wS cA se tbf (bSp X) (bSg X), wP cA pg kd lo hi co pa rk nu ct sa ((nc : Nat) : Int) ((nr : Nat) : Int), wB cA bt (bBs X).1 (bBs X).2.1 (bBs X).2.2.1 (bBs X).2.2.2, wQ cA qr (tq 0) ql qc, wTS cA tq n1 S, wH cA hd pl pr pu qu, wMO cA md ((nc : Nat) : Int) ((nr : Nat) : Int) ke so bu bc pu qu fs cd un hb pf ef, wMP cA md kd lo hi co pa rk nu ct sa, wME cA md fr cs cn ck ch tb cr, wMX cA md fx fv sn, wMB cA md be tr wy, wMH cA md pl pr, poolE cA ad (bTb X) (fun _ => false) k]) (wf_split (n := 14) (C := [wC cA x (pg 0) (bt 0) (se 0) (qr 0) (hd 0) so, wS cA se tbf (bSp X) (bSg X), wP cA pg kd lo hi co pa rk nu ct sa ((nc : Nat) : Int) ((nr : Nat) : Int), wB cA bt (bBs X).1 (bBs X).2.1 (bBs X).2.2.1 (bBs X).2.2.2, wQ cA qr (tq 0) ql qc, wTS cA tq n1 S, wH cA hd pl pr pu qu, wME cA md fr cs cn ck ch tb cr, wMX cA md fx fv sn, wMB cA md be tr wy, wMH cA md pl pr, poolE cA ad (bTb X) (fun _ => false) k]) (R := [wMO cA md ((nc : Nat) : Int) ((nr : Nat) : Int) ke so bu bc pu qu fs cd un hb pf ef, wMP cA md kd lo hi co pa rk nu ct sa]) [0, 1, 2, 3, 4, 5, 6, 9, 10, 11, 12, 13, 7, 8] rfl (by decide) rfl).symm ?_
      refine g_eq (st' := [iv (-2000000002), iv (-2000000002)]) rfl rfl rfl ?_
      refine g_ieq F (tgt := 887) (rfl) dL_law_229 (by decide) ?_
      refine g_widen (kc + 364) (ks + 8112) (by omega) (by omega) ?_
      exact hk kd lo hi co pa rk nu ct sa nc nr so X k ad tbf ql qc n1 S pl pr pu qu ke bu bc fs cd un hb pf ef fr cs cn ck ch tb cr fx fv sn be tr wy (hI)
    · by_cases h3 : fitsP (kd z1.toNat) z2 z3
      · skip
        refine g_aload_n F 1 rfl rfl dL_law_191 ?_
        refine g_aload_n F 0 rfl rfl dL_law_192 ?_
        refine g_iload_n F 3 rfl rfl dL_law_193 ?_
        refine g_iconst F dL_law_194 ?_
        refine g_iadd F dL_law_195 ?_
        refine g_sld F hX hbl hbA (i + 1) (by omega) (by omega) (by omega) dL_law_196 ?_
        rw [← hz1e]
        refine g_aload_n F 0 rfl rfl dL_law_197 ?_
        refine g_iload_n F 3 rfl rfl dL_law_198 ?_
        refine g_iconst F dL_law_199 ?_
        refine g_iadd F dL_law_200 ?_
        refine g_sld F hX hbl hbA (i + 2) (by omega) (by omega) (by omega) dL_law_201 ?_
        rw [← hz2e]
        refine g_aload_n F 0 rfl rfl dL_law_202 ?_
        refine g_iload_n F 3 rfl rfl dL_law_203 ?_
        refine g_iconst F dL_law_204 ?_
        refine g_iadd F dL_law_205 ?_
        refine g_sld F hX hbl hbA (i + 3) (by omega) (by omega) (by omega) dL_law_206 ?_
        rw [← hz3e]
        refine g_callVP F (As := [iv z1, iv z2, iv z3]) (rest := []) (wr := wfl [wS cA se tbf (bSp X) (bSg X), wB cA bt (bBs X).1 (bBs X).2.1 (bBs X).2.2.1 (bBs X).2.2.2, wQ cA qr (tq 0) ql qc, wTS cA tq n1 S, wH cA hd pl pr pu qu, wMO cA md ((nc : Nat) : Int) ((nr : Nat) : Int) ke so bu bc pu qu fs cd un hb pf ef, wMP cA md kd lo hi co pa rk nu ct sa, wME cA md fr cs cn ck ch tb cr, wMX cA md fx fv sn, wMB cA md be tr wy, wMH cA md pl pr, poolE cA ad (bTb X) (fun _ => false) k]) (kX6_bound l D cA x (bt 0) (se 0) (qr 0) (hd 0) so pg kd lo hi co pa rk nu ct sa nc nr z1 z2 z3 (by first | assumption | omega) (by first | assumption | omega) (by first | assumption | omega) (by first | assumption | omega) (by first | assumption | omega) (by first | assumption | omega)) (cwV 3 F.2.2.2.2.1 gL_law_X6_bound rfl rfl rfl (by decide +kernel) ⟨(Nat.le_of_ble_eq_true rfl), (Nat.le_of_ble_eq_true rfl)⟩) rfl rfl (q0 := 0) rfl (wf_split (n := 14) (C := [wC cA x (pg 0) (bt 0) (se 0) (qr 0) (hd 0) so, wP cA pg kd lo hi co pa rk nu ct sa ((nc : Nat) : Int) ((nr : Nat) : Int)]) (R := [wS cA se tbf (bSp X) (bSg X), wB cA bt (bBs X).1 (bBs X).2.1 (bBs X).2.2.1 (bBs X).2.2.2, wQ cA qr (tq 0) ql qc, wTS cA tq n1 S, wH cA hd pl pr pu qu, wMO cA md ((nc : Nat) : Int) ((nr : Nat) : Int) ke so bu bc pu qu fs cd un hb pf ef, wMP cA md kd lo hi co pa rk nu ct sa, wME cA md fr cs cn ck ch tb cr, wMX cA md fx fv sn, wMB cA md be tr wy, wMH cA md pl pr, poolE cA ad (bTb X) (fun _ => false) k]) [0, 2, 1, 3, 4, 5, 6, 7, 8, 9, 10, 11, 12, 13] rfl (by decide) rfl) rfl rfl (Nat.le_of_ble_eq_true rfl) ⟨by show kc + 0 ≤ 600000; omega, by show ks + 0 ≤ 7302250; omega⟩ hA dL_law_207 (fun v w hv => ?_)
        obtain ⟨hv, hw⟩ := hv
        rw [if_pos h1, if_neg h2, if_pos h3] at hv
        rw [if_pos ⟨h1, h2, h3⟩] at hw
        subst hv
        subst hw
        refine g_perm (wfl [wC cA x (pg 0) (bt 0) (se 0) (qr 0) (hd 0) so, wS cA se tbf (bSp X) (bSg X), wP cA pg kd (va_up lo z1.toNat z2) (va_up hi z1.toNat z3) co pa rk nu ct sa ((nc : Nat) : Int) ((nr : Nat) : Int), wB cA bt (bBs X).1 (bBs X).2.1 (bBs X).2.2.1 (bBs X).2.2.2, wQ cA qr (tq 0) ql qc, wTS cA tq n1 S, wH cA hd pl pr pu qu, wMO cA md ((nc : Nat) : Int) ((nr : Nat) : Int) ke so bu bc pu qu fs cd un hb pf ef, wMP cA md kd lo hi co pa rk nu ct sa, wME cA md fr cs cn ck ch tb cr, wMX cA md fx fv sn, wMB cA md be tr wy, wMH cA md pl pr, poolE cA ad (bTb X) (fun _ => false) k]) (wf_split (n := 14) (C := [wS cA se tbf (bSp X) (bSg X), wB cA bt (bBs X).1 (bBs X).2.1 (bBs X).2.2.1 (bBs X).2.2.2, wQ cA qr (tq 0) ql qc, wTS cA tq n1 S, wH cA hd pl pr pu qu, wMO cA md ((nc : Nat) : Int) ((nr : Nat) : Int) ke so bu bc pu qu fs cd un hb pf ef, wMP cA md kd lo hi co pa rk nu ct sa, wME cA md fr cs cn ck ch tb cr, wMX cA md fx fv sn, wMB cA md be tr wy, wMH cA md pl pr, poolE cA ad (bTb X) (fun _ => false) k]) (R := [wC cA x (pg 0) (bt 0) (se 0) (qr 0) (hd 0) so, wP cA pg kd (va_up lo z1.toNat z2) (va_up hi z1.toNat z3) co pa rk nu ct sa ((nc : Nat) : Int) ((nr : Nat) : Int)]) [1, 3, 4, 5, 6, 7, 8, 9, 10, 11, 12, 13, 0, 2] rfl (by decide) rfl).symm ?_
        refine g_eq (st' := [iv (0)]) rfl rfl rfl ?_
        refine g_aload_n F 2 rfl rfl dL_law_210 ?_
        refine g_aload_n F 0 rfl rfl dL_law_211 ?_
        refine g_iload_n F 3 rfl rfl dL_law_212 ?_
        refine g_iconst F dL_law_213 ?_
        refine g_iadd F dL_law_214 ?_
        refine g_sld F hX hbl hbA (i + 1) (by omega) (by omega) (by omega) dL_law_215 ?_
        rw [← hz1e]
        refine g_aload_n F 0 rfl rfl dL_law_216 ?_
        refine g_iload_n F 3 rfl rfl dL_law_217 ?_
        refine g_iconst F dL_law_218 ?_
        refine g_iadd F dL_law_219 ?_
        refine g_sld F hX hbl hbA (i + 2) (by omega) (by omega) (by omega) dL_law_220 ?_
        rw [← hz2e]
        refine g_aload_n F 0 rfl rfl dL_law_221 ?_
        refine g_iload_n F 3 rfl rfl dL_law_222 ?_
        refine g_iconst F dL_law_223 ?_
        refine g_iadd F dL_law_224 ?_
        refine g_sld F hX hbl hbA (i + 3) (by omega) (by omega) (by omega) dL_law_225 ?_
        rw [← hz3e]
        refine g_callVP F (As := [iv z1, iv z2, iv z3]) (rest := [iv (0)]) (wr := wfl [wC cA x (pg 0) (bt 0) (se 0) (qr 0) (hd 0) so, wS cA se tbf (bSp X) (bSg X), wP cA pg kd (va_up lo z1.toNat z2) (va_up hi z1.toNat z3) co pa rk nu ct sa ((nc : Nat) : Int) ((nr : Nat) : Int), wB cA bt (bBs X).1 (bBs X).2.1 (bBs X).2.2.1 (bBs X).2.2.2, wQ cA qr (tq 0) ql qc, wTS cA tq n1 S, wH cA hd pl pr pu qu, wME cA md fr cs cn ck ch tb cr, wMX cA md fx fv sn, wMB cA md be tr wy, wMH cA md pl pr, poolE cA ad (bTb X) (fun _ => false) k]) (kX7_bound l D cA md nc nr ke so bu bc pu qu fs cd un hb pf ef kd lo hi co pa rk nu ct sa z1 z2 z3 (by first | assumption | omega) (by first | assumption | omega) (by first | assumption | omega) (by first | assumption | omega) (by first | assumption | omega) (by first | assumption | omega)) (cwV 3 F.2.2.2.2.1 gL_law_X7_bound rfl rfl rfl (by decide +kernel) ⟨(Nat.le_of_ble_eq_true rfl), (Nat.le_of_ble_eq_true rfl)⟩) rfl rfl (q0 := 0) rfl (wf_split (n := 14) (C := [wMO cA md ((nc : Nat) : Int) ((nr : Nat) : Int) ke so bu bc pu qu fs cd un hb pf ef, wMP cA md kd lo hi co pa rk nu ct sa]) (R := [wC cA x (pg 0) (bt 0) (se 0) (qr 0) (hd 0) so, wS cA se tbf (bSp X) (bSg X), wP cA pg kd (va_up lo z1.toNat z2) (va_up hi z1.toNat z3) co pa rk nu ct sa ((nc : Nat) : Int) ((nr : Nat) : Int), wB cA bt (bBs X).1 (bBs X).2.1 (bBs X).2.2.1 (bBs X).2.2.2, wQ cA qr (tq 0) ql qc, wTS cA tq n1 S, wH cA hd pl pr pu qu, wME cA md fr cs cn ck ch tb cr, wMX cA md fx fv sn, wMB cA md be tr wy, wMH cA md pl pr, poolE cA ad (bTb X) (fun _ => false) k]) [7, 8, 0, 1, 2, 3, 4, 5, 6, 9, 10, 11, 12, 13] rfl (by decide) rfl) rfl rfl (Nat.le_of_ble_eq_true rfl) ⟨by show kc + 0 ≤ 600000; omega, by show ks + 0 ≤ 7302250; omega⟩ hA dL_law_226 (fun v w hv => ?_)
        obtain ⟨hv, hw⟩ := hv
        rw [if_pos h1, if_neg h2, if_pos h3] at hv
        rw [if_pos ⟨h1, h2, h3⟩] at hw
        subst hv
        subst hw
        refine g_perm (wfl [wC cA x (pg 0) (bt 0) (se 0) (qr 0) (hd 0) so, wS cA se tbf (bSp X) (bSg X), wP cA pg kd (va_up lo z1.toNat z2) (va_up hi z1.toNat z3) co pa rk nu ct sa ((nc : Nat) : Int) ((nr : Nat) : Int), wB cA bt (bBs X).1 (bBs X).2.1 (bBs X).2.2.1 (bBs X).2.2.2, wQ cA qr (tq 0) ql qc, wTS cA tq n1 S, wH cA hd pl pr pu qu, wMO cA md ((nc : Nat) : Int) ((nr : Nat) : Int) ke so bu bc pu qu fs cd un hb pf ef, wMP cA md kd (va_up lo z1.toNat z2) (va_up hi z1.toNat z3) co pa rk nu ct sa, wME cA md fr cs cn ck ch tb cr, wMX cA md fx fv sn, wMB cA md be tr wy, wMH cA md pl pr, poolE cA ad (bTb X) (fun _ => false) k]) (wf_split (n := 14) (C := [wC cA x (pg 0) (bt 0) (se 0) (qr 0) (hd 0) so, wS cA se tbf (bSp X) (bSg X), wP cA pg kd (va_up lo z1.toNat z2) (va_up hi z1.toNat z3) co pa rk nu ct sa ((nc : Nat) : Int) ((nr : Nat) : Int), wB cA bt (bBs X).1 (bBs X).2.1 (bBs X).2.2.1 (bBs X).2.2.2, wQ cA qr (tq 0) ql qc, wTS cA tq n1 S, wH cA hd pl pr pu qu, wME cA md fr cs cn ck ch tb cr, wMX cA md fx fv sn, wMB cA md be tr wy, wMH cA md pl pr, poolE cA ad (bTb X) (fun _ => false) k]) (R := [wMO cA md ((nc : Nat) : Int) ((nr : Nat) : Int) ke so bu bc pu qu fs cd un hb pf ef, wMP cA md kd (va_up lo z1.toNat z2) (va_up hi z1.toNat z3) co pa rk nu ct sa]) [0, 1, 2, 3, 4, 5, 6, 9, 10, 11, 12, 13, 7, 8] rfl (by decide) rfl).symm ?_
        refine g_eq (st' := [iv (0), iv (0)]) rfl rfl rfl ?_
        refine g_ieq F (tgt := 887) (rfl) dL_law_229 (by decide) ?_
        refine g_widen (kc + 364) (ks + 8112) (by omega) (by omega) ?_
        exact hk kd (va_up lo z1.toNat z2) (va_up hi z1.toNat z3) co pa rk nu ct sa nc nr so X k ad tbf ql qc n1 S pl pr pu qu ke bu bc fs cd un hb pf ef fr cs cn ck ch tb cr fx fv sn be tr wy (⟨pr_bnd hpr0 (by omega) h2 h3, hI.2⟩)
      · skip
        refine g_aload_n F 1 rfl rfl dL_law_191 ?_
        refine g_aload_n F 0 rfl rfl dL_law_192 ?_
        refine g_iload_n F 3 rfl rfl dL_law_193 ?_
        refine g_iconst F dL_law_194 ?_
        refine g_iadd F dL_law_195 ?_
        refine g_sld F hX hbl hbA (i + 1) (by omega) (by omega) (by omega) dL_law_196 ?_
        rw [← hz1e]
        refine g_aload_n F 0 rfl rfl dL_law_197 ?_
        refine g_iload_n F 3 rfl rfl dL_law_198 ?_
        refine g_iconst F dL_law_199 ?_
        refine g_iadd F dL_law_200 ?_
        refine g_sld F hX hbl hbA (i + 2) (by omega) (by omega) (by omega) dL_law_201 ?_
        rw [← hz2e]
        refine g_aload_n F 0 rfl rfl dL_law_202 ?_
        refine g_iload_n F 3 rfl rfl dL_law_203 ?_
        refine g_iconst F dL_law_204 ?_
        refine g_iadd F dL_law_205 ?_
        refine g_sld F hX hbl hbA (i + 3) (by omega) (by omega) (by omega) dL_law_206 ?_
        rw [← hz3e]
        refine g_callVP F (As := [iv z1, iv z2, iv z3]) (rest := []) (wr := wfl [wS cA se tbf (bSp X) (bSg X), wB cA bt (bBs X).1 (bBs X).2.1 (bBs X).2.2.1 (bBs X).2.2.2, wQ cA qr (tq 0) ql qc, wTS cA tq n1 S, wH cA hd pl pr pu qu, wMO cA md ((nc : Nat) : Int) ((nr : Nat) : Int) ke so bu bc pu qu fs cd un hb pf ef, wMP cA md kd lo hi co pa rk nu ct sa, wME cA md fr cs cn ck ch tb cr, wMX cA md fx fv sn, wMB cA md be tr wy, wMH cA md pl pr, poolE cA ad (bTb X) (fun _ => false) k]) (kX6_bound l D cA x (bt 0) (se 0) (qr 0) (hd 0) so pg kd lo hi co pa rk nu ct sa nc nr z1 z2 z3 (by first | assumption | omega) (by first | assumption | omega) (by first | assumption | omega) (by first | assumption | omega) (by first | assumption | omega) (by first | assumption | omega)) (cwV 3 F.2.2.2.2.1 gL_law_X6_bound rfl rfl rfl (by decide +kernel) ⟨(Nat.le_of_ble_eq_true rfl), (Nat.le_of_ble_eq_true rfl)⟩) rfl rfl (q0 := 0) rfl (wf_split (n := 14) (C := [wC cA x (pg 0) (bt 0) (se 0) (qr 0) (hd 0) so, wP cA pg kd lo hi co pa rk nu ct sa ((nc : Nat) : Int) ((nr : Nat) : Int)]) (R := [wS cA se tbf (bSp X) (bSg X), wB cA bt (bBs X).1 (bBs X).2.1 (bBs X).2.2.1 (bBs X).2.2.2, wQ cA qr (tq 0) ql qc, wTS cA tq n1 S, wH cA hd pl pr pu qu, wMO cA md ((nc : Nat) : Int) ((nr : Nat) : Int) ke so bu bc pu qu fs cd un hb pf ef, wMP cA md kd lo hi co pa rk nu ct sa, wME cA md fr cs cn ck ch tb cr, wMX cA md fx fv sn, wMB cA md be tr wy, wMH cA md pl pr, poolE cA ad (bTb X) (fun _ => false) k]) [0, 2, 1, 3, 4, 5, 6, 7, 8, 9, 10, 11, 12, 13] rfl (by decide) rfl) rfl rfl (Nat.le_of_ble_eq_true rfl) ⟨by show kc + 0 ≤ 600000; omega, by show ks + 0 ≤ 7302250; omega⟩ hA dL_law_207 (fun v w hv => ?_)
        obtain ⟨hv, hw⟩ := hv
        rw [if_pos h1, if_neg h2, if_neg h3] at hv
        rw [if_neg (fun z => h3 z.2.2)] at hw
        subst hv
        subst hw
        refine g_perm (wfl [wC cA x (pg 0) (bt 0) (se 0) (qr 0) (hd 0) so, wS cA se tbf (bSp X) (bSg X), wP cA pg kd lo hi co pa rk nu ct sa ((nc : Nat) : Int) ((nr : Nat) : Int), wB cA bt (bBs X).1 (bBs X).2.1 (bBs X).2.2.1 (bBs X).2.2.2, wQ cA qr (tq 0) ql qc, wTS cA tq n1 S, wH cA hd pl pr pu qu, wMO cA md ((nc : Nat) : Int) ((nr : Nat) : Int) ke so bu bc pu qu fs cd un hb pf ef, wMP cA md kd lo hi co pa rk nu ct sa, wME cA md fr cs cn ck ch tb cr, wMX cA md fx fv sn, wMB cA md be tr wy, wMH cA md pl pr, poolE cA ad (bTb X) (fun _ => false) k]) (wf_split (n := 14) (C := [wS cA se tbf (bSp X) (bSg X), wB cA bt (bBs X).1 (bBs X).2.1 (bBs X).2.2.1 (bBs X).2.2.2, wQ cA qr (tq 0) ql qc, wTS cA tq n1 S, wH cA hd pl pr pu qu, wMO cA md ((nc : Nat) : Int) ((nr : Nat) : Int) ke so bu bc pu qu fs cd un hb pf ef, wMP cA md kd lo hi co pa rk nu ct sa, wME cA md fr cs cn ck ch tb cr, wMX cA md fx fv sn, wMB cA md be tr wy, wMH cA md pl pr, poolE cA ad (bTb X) (fun _ => false) k]) (R := [wC cA x (pg 0) (bt 0) (se 0) (qr 0) (hd 0) so, wP cA pg kd lo hi co pa rk nu ct sa ((nc : Nat) : Int) ((nr : Nat) : Int)]) [1, 3, 4, 5, 6, 7, 8, 9, 10, 11, 12, 13, 0, 2] rfl (by decide) rfl).symm ?_
        refine g_eq (st' := [iv (-2000000001)]) rfl rfl rfl ?_
        refine g_aload_n F 2 rfl rfl dL_law_210 ?_
        refine g_aload_n F 0 rfl rfl dL_law_211 ?_
        refine g_iload_n F 3 rfl rfl dL_law_212 ?_
        refine g_iconst F dL_law_213 ?_
        refine g_iadd F dL_law_214 ?_
        refine g_sld F hX hbl hbA (i + 1) (by omega) (by omega) (by omega) dL_law_215 ?_
        rw [← hz1e]
        refine g_aload_n F 0 rfl rfl dL_law_216 ?_
        refine g_iload_n F 3 rfl rfl dL_law_217 ?_
        refine g_iconst F dL_law_218 ?_
        refine g_iadd F dL_law_219 ?_
        refine g_sld F hX hbl hbA (i + 2) (by omega) (by omega) (by omega) dL_law_220 ?_
        rw [← hz2e]
        refine g_aload_n F 0 rfl rfl dL_law_221 ?_
        refine g_iload_n F 3 rfl rfl dL_law_222 ?_
        refine g_iconst F dL_law_223 ?_
        refine g_iadd F dL_law_224 ?_
        refine g_sld F hX hbl hbA (i + 3) (by omega) (by omega) (by omega) dL_law_225 ?_
        rw [← hz3e]
        refine g_callVP F (As := [iv z1, iv z2, iv z3]) (rest := [iv (-2000000001)]) (wr := wfl [wC cA x (pg 0) (bt 0) (se 0) (qr 0) (hd 0) so, wS cA se tbf (bSp X) (bSg X), wP cA pg kd lo hi co pa rk nu ct sa ((nc : Nat) : Int) ((nr : Nat) : Int), wB cA bt (bBs X).1 (bBs X).2.1 (bBs X).2.2.1 (bBs X).2.2.2, wQ cA qr (tq 0) ql qc, wTS cA tq n1 S, wH cA hd pl pr pu qu, wME cA md fr cs cn ck ch tb cr, wMX cA md fx fv sn, wMB cA md be tr wy, wMH cA md pl pr, poolE cA ad (bTb X) (fun _ => false) k]) (kX7_bound l D cA md nc nr ke so bu bc pu qu fs cd un hb pf ef kd lo hi co pa rk nu ct sa z1 z2 z3 (by first | assumption | omega) (by first | assumption | omega) (by first | assumption | omega) (by first | assumption | omega) (by first | assumption | omega) (by first | assumption | omega)) (cwV 3 F.2.2.2.2.1 gL_law_X7_bound rfl rfl rfl (by decide +kernel) ⟨(Nat.le_of_ble_eq_true rfl), (Nat.le_of_ble_eq_true rfl)⟩) rfl rfl (q0 := 0) rfl (wf_split (n := 14) (C := [wMO cA md ((nc : Nat) : Int) ((nr : Nat) : Int) ke so bu bc pu qu fs cd un hb pf ef, wMP cA md kd lo hi co pa rk nu ct sa]) (R := [wC cA x (pg 0) (bt 0) (se 0) (qr 0) (hd 0) so, wS cA se tbf (bSp X) (bSg X), wP cA pg kd lo hi co pa rk nu ct sa ((nc : Nat) : Int) ((nr : Nat) : Int), wB cA bt (bBs X).1 (bBs X).2.1 (bBs X).2.2.1 (bBs X).2.2.2, wQ cA qr (tq 0) ql qc, wTS cA tq n1 S, wH cA hd pl pr pu qu, wME cA md fr cs cn ck ch tb cr, wMX cA md fx fv sn, wMB cA md be tr wy, wMH cA md pl pr, poolE cA ad (bTb X) (fun _ => false) k]) [7, 8, 0, 1, 2, 3, 4, 5, 6, 9, 10, 11, 12, 13] rfl (by decide) rfl) rfl rfl (Nat.le_of_ble_eq_true rfl) ⟨by show kc + 0 ≤ 600000; omega, by show ks + 0 ≤ 7302250; omega⟩ hA dL_law_226 (fun v w hv => ?_)
        obtain ⟨hv, hw⟩ := hv
        rw [if_pos h1, if_neg h2, if_neg h3] at hv
        rw [if_neg (fun z => h3 z.2.2)] at hw
        subst hv
        subst hw
        refine g_perm (wfl [wC cA x (pg 0) (bt 0) (se 0) (qr 0) (hd 0) so, wS cA se tbf (bSp X) (bSg X), wP cA pg kd lo hi co pa rk nu ct sa ((nc : Nat) : Int) ((nr : Nat) : Int), wB cA bt (bBs X).1 (bBs X).2.1 (bBs X).2.2.1 (bBs X).2.2.2, wQ cA qr (tq 0) ql qc, wTS cA tq n1 S, wH cA hd pl pr pu qu, wMO cA md ((nc : Nat) : Int) ((nr : Nat) : Int) ke so bu bc pu qu fs cd un hb pf ef, wMP cA md kd lo hi co pa rk nu ct sa, wME cA md fr cs cn ck ch tb cr, wMX cA md fx fv sn, wMB cA md be tr wy, wMH cA md pl pr, poolE cA ad (bTb X) (fun _ => false) k]) (wf_split (n := 14) (C := [wC cA x (pg 0) (bt 0) (se 0) (qr 0) (hd 0) so, wS cA se tbf (bSp X) (bSg X), wP cA pg kd lo hi co pa rk nu ct sa ((nc : Nat) : Int) ((nr : Nat) : Int), wB cA bt (bBs X).1 (bBs X).2.1 (bBs X).2.2.1 (bBs X).2.2.2, wQ cA qr (tq 0) ql qc, wTS cA tq n1 S, wH cA hd pl pr pu qu, wME cA md fr cs cn ck ch tb cr, wMX cA md fx fv sn, wMB cA md be tr wy, wMH cA md pl pr, poolE cA ad (bTb X) (fun _ => false) k]) (R := [wMO cA md ((nc : Nat) : Int) ((nr : Nat) : Int) ke so bu bc pu qu fs cd un hb pf ef, wMP cA md kd lo hi co pa rk nu ct sa]) [0, 1, 2, 3, 4, 5, 6, 9, 10, 11, 12, 13, 7, 8] rfl (by decide) rfl).symm ?_
        refine g_eq (st' := [iv (-2000000001), iv (-2000000001)]) rfl rfl rfl ?_
        refine g_ieq F (tgt := 887) (rfl) dL_law_229 (by decide) ?_
        refine g_widen (kc + 364) (ks + 8112) (by omega) (by omega) ?_
        exact hk kd lo hi co pa rk nu ct sa nc nr so X k ad tbf ql qc n1 S pl pr pu qu ke bu bc fs cd un hb pf ef fr cs cn ck ch tb cr fx fv sn be tr wy (hI)
  · skip
    refine g_aload_n F 1 rfl rfl dL_law_191 ?_
    refine g_aload_n F 0 rfl rfl dL_law_192 ?_
    refine g_iload_n F 3 rfl rfl dL_law_193 ?_
    refine g_iconst F dL_law_194 ?_
    refine g_iadd F dL_law_195 ?_
    refine g_sld F hX hbl hbA (i + 1) (by omega) (by omega) (by omega) dL_law_196 ?_
    rw [← hz1e]
    refine g_aload_n F 0 rfl rfl dL_law_197 ?_
    refine g_iload_n F 3 rfl rfl dL_law_198 ?_
    refine g_iconst F dL_law_199 ?_
    refine g_iadd F dL_law_200 ?_
    refine g_sld F hX hbl hbA (i + 2) (by omega) (by omega) (by omega) dL_law_201 ?_
    rw [← hz2e]
    refine g_aload_n F 0 rfl rfl dL_law_202 ?_
    refine g_iload_n F 3 rfl rfl dL_law_203 ?_
    refine g_iconst F dL_law_204 ?_
    refine g_iadd F dL_law_205 ?_
    refine g_sld F hX hbl hbA (i + 3) (by omega) (by omega) (by omega) dL_law_206 ?_
    rw [← hz3e]
    refine g_callVP F (As := [iv z1, iv z2, iv z3]) (rest := []) (wr := wfl [wS cA se tbf (bSp X) (bSg X), wB cA bt (bBs X).1 (bBs X).2.1 (bBs X).2.2.1 (bBs X).2.2.2, wQ cA qr (tq 0) ql qc, wTS cA tq n1 S, wH cA hd pl pr pu qu, wMO cA md ((nc : Nat) : Int) ((nr : Nat) : Int) ke so bu bc pu qu fs cd un hb pf ef, wMP cA md kd lo hi co pa rk nu ct sa, wME cA md fr cs cn ck ch tb cr, wMX cA md fx fv sn, wMB cA md be tr wy, wMH cA md pl pr, poolE cA ad (bTb X) (fun _ => false) k]) (kX6_bound l D cA x (bt 0) (se 0) (qr 0) (hd 0) so pg kd lo hi co pa rk nu ct sa nc nr z1 z2 z3 (by first | assumption | omega) (by first | assumption | omega) (by first | assumption | omega) (by first | assumption | omega) (by first | assumption | omega) (by first | assumption | omega)) (cwV 3 F.2.2.2.2.1 gL_law_X6_bound rfl rfl rfl (by decide +kernel) ⟨(Nat.le_of_ble_eq_true rfl), (Nat.le_of_ble_eq_true rfl)⟩) rfl rfl (q0 := 0) rfl (wf_split (n := 14) (C := [wC cA x (pg 0) (bt 0) (se 0) (qr 0) (hd 0) so, wP cA pg kd lo hi co pa rk nu ct sa ((nc : Nat) : Int) ((nr : Nat) : Int)]) (R := [wS cA se tbf (bSp X) (bSg X), wB cA bt (bBs X).1 (bBs X).2.1 (bBs X).2.2.1 (bBs X).2.2.2, wQ cA qr (tq 0) ql qc, wTS cA tq n1 S, wH cA hd pl pr pu qu, wMO cA md ((nc : Nat) : Int) ((nr : Nat) : Int) ke so bu bc pu qu fs cd un hb pf ef, wMP cA md kd lo hi co pa rk nu ct sa, wME cA md fr cs cn ck ch tb cr, wMX cA md fx fv sn, wMB cA md be tr wy, wMH cA md pl pr, poolE cA ad (bTb X) (fun _ => false) k]) [0, 2, 1, 3, 4, 5, 6, 7, 8, 9, 10, 11, 12, 13] rfl (by decide) rfl) rfl rfl (Nat.le_of_ble_eq_true rfl) ⟨by show kc + 0 ≤ 600000; omega, by show ks + 0 ≤ 7302250; omega⟩ hA dL_law_207 (fun v w hv => ?_)
    obtain ⟨hv, hw⟩ := hv
    rw [if_neg h1] at hv
    rw [if_neg (fun z => h1 z.1)] at hw
    subst hv
    subst hw
    refine g_perm (wfl [wC cA x (pg 0) (bt 0) (se 0) (qr 0) (hd 0) so, wS cA se tbf (bSp X) (bSg X), wP cA pg kd lo hi co pa rk nu ct sa ((nc : Nat) : Int) ((nr : Nat) : Int), wB cA bt (bBs X).1 (bBs X).2.1 (bBs X).2.2.1 (bBs X).2.2.2, wQ cA qr (tq 0) ql qc, wTS cA tq n1 S, wH cA hd pl pr pu qu, wMO cA md ((nc : Nat) : Int) ((nr : Nat) : Int) ke so bu bc pu qu fs cd un hb pf ef, wMP cA md kd lo hi co pa rk nu ct sa, wME cA md fr cs cn ck ch tb cr, wMX cA md fx fv sn, wMB cA md be tr wy, wMH cA md pl pr, poolE cA ad (bTb X) (fun _ => false) k]) (wf_split (n := 14) (C := [wS cA se tbf (bSp X) (bSg X), wB cA bt (bBs X).1 (bBs X).2.1 (bBs X).2.2.1 (bBs X).2.2.2, wQ cA qr (tq 0) ql qc, wTS cA tq n1 S, wH cA hd pl pr pu qu, wMO cA md ((nc : Nat) : Int) ((nr : Nat) : Int) ke so bu bc pu qu fs cd un hb pf ef, wMP cA md kd lo hi co pa rk nu ct sa, wME cA md fr cs cn ck ch tb cr, wMX cA md fx fv sn, wMB cA md be tr wy, wMH cA md pl pr, poolE cA ad (bTb X) (fun _ => false) k]) (R := [wC cA x (pg 0) (bt 0) (se 0) (qr 0) (hd 0) so, wP cA pg kd lo hi co pa rk nu ct sa ((nc : Nat) : Int) ((nr : Nat) : Int)]) [1, 3, 4, 5, 6, 7, 8, 9, 10, 11, 12, 13, 0, 2] rfl (by decide) rfl).symm ?_
    refine g_eq (st' := [iv (-2000000001)]) rfl rfl rfl ?_
    refine g_aload_n F 2 rfl rfl dL_law_210 ?_
    refine g_aload_n F 0 rfl rfl dL_law_211 ?_
    refine g_iload_n F 3 rfl rfl dL_law_212 ?_
    refine g_iconst F dL_law_213 ?_
    refine g_iadd F dL_law_214 ?_
    refine g_sld F hX hbl hbA (i + 1) (by omega) (by omega) (by omega) dL_law_215 ?_
    rw [← hz1e]
    refine g_aload_n F 0 rfl rfl dL_law_216 ?_
    refine g_iload_n F 3 rfl rfl dL_law_217 ?_
    refine g_iconst F dL_law_218 ?_
    refine g_iadd F dL_law_219 ?_
    refine g_sld F hX hbl hbA (i + 2) (by omega) (by omega) (by omega) dL_law_220 ?_
    rw [← hz2e]
    refine g_aload_n F 0 rfl rfl dL_law_221 ?_
    refine g_iload_n F 3 rfl rfl dL_law_222 ?_
    refine g_iconst F dL_law_223 ?_
    refine g_iadd F dL_law_224 ?_
    refine g_sld F hX hbl hbA (i + 3) (by omega) (by omega) (by omega) dL_law_225 ?_
    rw [← hz3e]
    refine g_callVP F (As := [iv z1, iv z2, iv z3]) (rest := [iv (-2000000001)]) (wr := wfl [wC cA x (pg 0) (bt 0) (se 0) (qr 0) (hd 0) so, wS cA se tbf (bSp X) (bSg X), wP cA pg kd lo hi co pa rk nu ct sa ((nc : Nat) : Int) ((nr : Nat) : Int), wB cA bt (bBs X).1 (bBs X).2.1 (bBs X).2.2.1 (bBs X).2.2.2, wQ cA qr (tq 0) ql qc, wTS cA tq n1 S, wH cA hd pl pr pu qu, wME cA md fr cs cn ck ch tb cr, wMX cA md fx fv sn, wMB cA md be tr wy, wMH cA md pl pr, poolE cA ad (bTb X) (fun _ => false) k]) (kX7_bound l D cA md nc nr ke so bu bc pu qu fs cd un hb pf ef kd lo hi co pa rk nu ct sa z1 z2 z3 (by first | assumption | omega) (by first | assumption | omega) (by first | assumption | omega) (by first | assumption | omega) (by first | assumption | omega) (by first | assumption | omega)) (cwV 3 F.2.2.2.2.1 gL_law_X7_bound rfl rfl rfl (by decide +kernel) ⟨(Nat.le_of_ble_eq_true rfl), (Nat.le_of_ble_eq_true rfl)⟩) rfl rfl (q0 := 0) rfl (wf_split (n := 14) (C := [wMO cA md ((nc : Nat) : Int) ((nr : Nat) : Int) ke so bu bc pu qu fs cd un hb pf ef, wMP cA md kd lo hi co pa rk nu ct sa]) (R := [wC cA x (pg 0) (bt 0) (se 0) (qr 0) (hd 0) so, wS cA se tbf (bSp X) (bSg X), wP cA pg kd lo hi co pa rk nu ct sa ((nc : Nat) : Int) ((nr : Nat) : Int), wB cA bt (bBs X).1 (bBs X).2.1 (bBs X).2.2.1 (bBs X).2.2.2, wQ cA qr (tq 0) ql qc, wTS cA tq n1 S, wH cA hd pl pr pu qu, wME cA md fr cs cn ck ch tb cr, wMX cA md fx fv sn, wMB cA md be tr wy, wMH cA md pl pr, poolE cA ad (bTb X) (fun _ => false) k]) [7, 8, 0, 1, 2, 3, 4, 5, 6, 9, 10, 11, 12, 13] rfl (by decide) rfl) rfl rfl (Nat.le_of_ble_eq_true rfl) ⟨by show kc + 0 ≤ 600000; omega, by show ks + 0 ≤ 7302250; omega⟩ hA dL_law_226 (fun v w hv => ?_)
    obtain ⟨hv, hw⟩ := hv
    rw [if_neg h1] at hv
    rw [if_neg (fun z => h1 z.1)] at hw
    subst hv
    subst hw
    refine g_perm (wfl [wC cA x (pg 0) (bt 0) (se 0) (qr 0) (hd 0) so, wS cA se tbf (bSp X) (bSg X), wP cA pg kd lo hi co pa rk nu ct sa ((nc : Nat) : Int) ((nr : Nat) : Int), wB cA bt (bBs X).1 (bBs X).2.1 (bBs X).2.2.1 (bBs X).2.2.2, wQ cA qr (tq 0) ql qc, wTS cA tq n1 S, wH cA hd pl pr pu qu, wMO cA md ((nc : Nat) : Int) ((nr : Nat) : Int) ke so bu bc pu qu fs cd un hb pf ef, wMP cA md kd lo hi co pa rk nu ct sa, wME cA md fr cs cn ck ch tb cr, wMX cA md fx fv sn, wMB cA md be tr wy, wMH cA md pl pr, poolE cA ad (bTb X) (fun _ => false) k]) (wf_split (n := 14) (C := [wC cA x (pg 0) (bt 0) (se 0) (qr 0) (hd 0) so, wS cA se tbf (bSp X) (bSg X), wP cA pg kd lo hi co pa rk nu ct sa ((nc : Nat) : Int) ((nr : Nat) : Int), wB cA bt (bBs X).1 (bBs X).2.1 (bBs X).2.2.1 (bBs X).2.2.2, wQ cA qr (tq 0) ql qc, wTS cA tq n1 S, wH cA hd pl pr pu qu, wME cA md fr cs cn ck ch tb cr, wMX cA md fx fv sn, wMB cA md be tr wy, wMH cA md pl pr, poolE cA ad (bTb X) (fun _ => false) k]) (R := [wMO cA md ((nc : Nat) : Int) ((nr : Nat) : Int) ke so bu bc pu qu fs cd un hb pf ef, wMP cA md kd lo hi co pa rk nu ct sa]) [0, 1, 2, 3, 4, 5, 6, 9, 10, 11, 12, 13, 7, 8] rfl (by decide) rfl).symm ?_
    refine g_eq (st' := [iv (-2000000001), iv (-2000000001)]) rfl rfl rfl ?_
    refine g_ieq F (tgt := 887) (rfl) dL_law_229 (by decide) ?_
    refine g_widen (kc + 364) (ks + 8112) (by omega) (by omega) ?_
    exact hk kd lo hi co pa rk nu ct sa nc nr so X k ad tbf ql qc n1 S pl pr pu qu ke bu bc fs cd un hb pf ef fr cs cn ck ch tb cr fx fv sn be tr wy (hI)

set_option maxHeartbeats 4000000 in
set_option maxRecDepth 100000 in
theorem lc_column {p : Program} {l : Launch} {e : Env} {s : State} {m : MethodId} {below : List Frame} {meth : Method} {c : Code} {Q : State → Prop} {D : va_G} {cA : Nat → ClassId} {A : Nat → Prop} {sb Ln : Nat} {xs : Nat → Int32} {x se pg bt qr tq hd md : Nat → Nat} (F : Fx p s m #[Value.ref sb] meth c cL_law 4 RL wsL_law ret D cA) (hA : ∀ q, s.heap.size ≤ q → A q) (hX : va_X sb Ln xs s s.heap) (hbl : sb < s.heap.size) (hbA : ¬ A sb) (hL : Ln ≤ 2048) (i : Nat) (hi : i + 4 ≤ Ln) (kc ks : Nat) (hkc : kc + 364 ≤ 600000 ∧ ks + 8112 ≤ 7302250) (hk : lwN p l e s m sb below meth c Q D cA A x se pg bt qr tq hd md i (kc + 364) (ks + 8112) 887) : lwN p l e s m sb below meth c Q D cA A x se pg bt qr tq hd md i kc ks 148 := by
  intro kd lo hi co pa rk nu ct sa nc nr so X k ad tbf ql qc n1 S pl pr pu qu ke bu bc fs cd un hb pf ef fr cs cn ck ch tb cr fx fv sn be tr wy hI
  obtain ⟨hpr0, ⟨hS, hbd, hbo, hk51, ht1, ht2, h00⟩, ⟨hSq, hzq⟩, ⟨hpl, hpb, hpr, hqb⟩, ⟨hbm, hke⟩, hrel⟩ := id hI
  obtain ⟨hP, hR, hco, hpa5, hpaN, hle, zs, zc⟩ := id hpr0
  have qnc := hP.1
  have qkd := hP.2.1
  have qlo := hP.2.2.1
  have qhi : ∀ j, hi j = -2000000005 ∨ (-20 ≤ hi j ∧ hi j ≤ 20) := hP.2.2.2.1
  have qnr := hR.1
  have qrk := hR.2.1
  have qnu := hR.2.2.1
  have qnu2 : ∀ j, -198 ≤ nu j ∧ nu j ≤ 198 := fun j => by have := qnu j; omega
  have qsa := hR.2.2.2.1
  have qct := hR.2.2.2.2
  have hbb := hbd.1
  have hbc9 := hbd.2.1
  have hbv := hbd.2.2
  have hbu9 : 0 < bu ∧ bu ≤ 8000000 := hbm.1
  have hbcm : -200000000000 ≤ bc ∧ bc ≤ 200000000000 := hbm.2.1
  have hbem : ∀ j, -200000000000 ≤ be j ∧ be j ≤ 200000000000 := hbm.2.2
  have hpb1 : 1 ≤ pu ∧ pu ≤ 2000000000 := by omega
  have hV := @IM_P D s A
  have hz1 : -2147483648 ≤ (xs (i + 1)).toInt ∧ (xs (i + 1)).toInt ≤ 2147483647 := i32_rng _
  have hz2 : -2147483648 ≤ (xs (i + 2)).toInt ∧ (xs (i + 2)).toInt ≤ 2147483647 := i32_rng _
  have hz3 : -2147483648 ≤ (xs (i + 3)).toInt ∧ (xs (i + 3)).toInt ≤ 2147483647 := i32_rng _
  obtain ⟨z1, hz1e⟩ : ∃ z, z = (xs (i + 1)).toInt := ⟨_, rfl⟩
  obtain ⟨z2, hz2e⟩ : ∃ z, z = (xs (i + 2)).toInt := ⟨_, rfl⟩
  obtain ⟨z3, hz3e⟩ : ∃ z, z = (xs (i + 3)).toInt := ⟨_, rfl⟩
  rw [← hz1e] at hz1
  rw [← hz2e] at hz2
  rw [← hz3e] at hz3
  by_cases h1 : (0 ≤ z1 ∧ z1 ≤ 2) ∧ fitsP z1 z2 z3
  · by_cases h2 : 5 ≤ nc
    · skip
      refine g_aload_n F 1 rfl rfl dL_law_148 ?_
      refine g_aload_n F 0 rfl rfl dL_law_149 ?_
      refine g_iload_n F 3 rfl rfl dL_law_150 ?_
      refine g_iconst F dL_law_151 ?_
      refine g_iadd F dL_law_152 ?_
      refine g_sld F hX hbl hbA (i + 1) (by omega) (by omega) (by omega) dL_law_153 ?_
      rw [← hz1e]
      refine g_aload_n F 0 rfl rfl dL_law_154 ?_
      refine g_iload_n F 3 rfl rfl dL_law_155 ?_
      refine g_iconst F dL_law_156 ?_
      refine g_iadd F dL_law_157 ?_
      refine g_sld F hX hbl hbA (i + 2) (by omega) (by omega) (by omega) dL_law_158 ?_
      rw [← hz2e]
      refine g_aload_n F 0 rfl rfl dL_law_159 ?_
      refine g_iload_n F 3 rfl rfl dL_law_160 ?_
      refine g_iconst F dL_law_161 ?_
      refine g_iadd F dL_law_162 ?_
      refine g_sld F hX hbl hbA (i + 3) (by omega) (by omega) (by omega) dL_law_163 ?_
      rw [← hz3e]
      refine g_callVP F (As := [iv z1, iv z2, iv z3]) (rest := []) (wr := wfl [wS cA se tbf (bSp X) (bSg X), wB cA bt (bBs X).1 (bBs X).2.1 (bBs X).2.2.1 (bBs X).2.2.2, wQ cA qr (tq 0) ql qc, wTS cA tq n1 S, wH cA hd pl pr pu qu, wMO cA md ((nc : Nat) : Int) ((nr : Nat) : Int) ke so bu bc pu qu fs cd un hb pf ef, wMP cA md kd lo hi co pa rk nu ct sa, wME cA md fr cs cn ck ch tb cr, wMX cA md fx fv sn, wMB cA md be tr wy, wMH cA md pl pr, poolE cA ad (bTb X) (fun _ => false) k]) (kX6_column l D cA x (bt 0) (se 0) (qr 0) (hd 0) so pg kd lo hi co pa rk nu ct sa nc nr z1 z2 z3 (by first | assumption | omega) (by first | assumption | omega) (by first | assumption | omega) (by first | assumption | omega) (by first | assumption | omega) (by first | assumption | omega)) (cwV 3 F.2.2.2.2.1 gL_law_X6_column rfl rfl rfl (by decide +kernel) ⟨(Nat.le_of_ble_eq_true rfl), (Nat.le_of_ble_eq_true rfl)⟩) rfl rfl (q0 := 0) rfl (wf_split (n := 14) (C := [wC cA x (pg 0) (bt 0) (se 0) (qr 0) (hd 0) so, wP cA pg kd lo hi co pa rk nu ct sa ((nc : Nat) : Int) ((nr : Nat) : Int)]) (R := [wS cA se tbf (bSp X) (bSg X), wB cA bt (bBs X).1 (bBs X).2.1 (bBs X).2.2.1 (bBs X).2.2.2, wQ cA qr (tq 0) ql qc, wTS cA tq n1 S, wH cA hd pl pr pu qu, wMO cA md ((nc : Nat) : Int) ((nr : Nat) : Int) ke so bu bc pu qu fs cd un hb pf ef, wMP cA md kd lo hi co pa rk nu ct sa, wME cA md fr cs cn ck ch tb cr, wMX cA md fx fv sn, wMB cA md be tr wy, wMH cA md pl pr, poolE cA ad (bTb X) (fun _ => false) k]) [0, 2, 1, 3, 4, 5, 6, 7, 8, 9, 10, 11, 12, 13] rfl (by decide) rfl) rfl rfl (Nat.le_of_ble_eq_true rfl) ⟨by show kc + 0 ≤ 600000; omega, by show ks + 0 ≤ 7302250; omega⟩ hA dL_law_164 (fun v w hv => ?_)
      obtain ⟨hv, hw⟩ := hv
      rw [if_pos h1, if_pos h2] at hv
      rw [if_neg (fun z => absurd z.2 (by omega))] at hw
      subst hv
      subst hw
      refine g_perm (wfl [wC cA x (pg 0) (bt 0) (se 0) (qr 0) (hd 0) so, wS cA se tbf (bSp X) (bSg X), wP cA pg kd lo hi co pa rk nu ct sa ((nc : Nat) : Int) ((nr : Nat) : Int), wB cA bt (bBs X).1 (bBs X).2.1 (bBs X).2.2.1 (bBs X).2.2.2, wQ cA qr (tq 0) ql qc, wTS cA tq n1 S, wH cA hd pl pr pu qu, wMO cA md ((nc : Nat) : Int) ((nr : Nat) : Int) ke so bu bc pu qu fs cd un hb pf ef, wMP cA md kd lo hi co pa rk nu ct sa, wME cA md fr cs cn ck ch tb cr, wMX cA md fx fv sn, wMB cA md be tr wy, wMH cA md pl pr, poolE cA ad (bTb X) (fun _ => false) k]) (wf_split (n := 14) (C := [wS cA se tbf (bSp X) (bSg X), wB cA bt (bBs X).1 (bBs X).2.1 (bBs X).2.2.1 (bBs X).2.2.2, wQ cA qr (tq 0) ql qc, wTS cA tq n1 S, wH cA hd pl pr pu qu, wMO cA md ((nc : Nat) : Int) ((nr : Nat) : Int) ke so bu bc pu qu fs cd un hb pf ef, wMP cA md kd lo hi co pa rk nu ct sa, wME cA md fr cs cn ck ch tb cr, wMX cA md fx fv sn, wMB cA md be tr wy, wMH cA md pl pr, poolE cA ad (bTb X) (fun _ => false) k]) (R := [wC cA x (pg 0) (bt 0) (se 0) (qr 0) (hd 0) so, wP cA pg kd lo hi co pa rk nu ct sa ((nc : Nat) : Int) ((nr : Nat) : Int)]) [1, 3, 4, 5, 6, 7, 8, 9, 10, 11, 12, 13, 0, 2] rfl (by decide) rfl).symm ?_
      refine g_eq (st' := [iv (-2000000003)]) rfl rfl rfl ?_
      refine g_aload_n F 2 rfl rfl dL_law_167 ?_
      refine g_aload_n F 0 rfl rfl dL_law_168 ?_
      refine g_iload_n F 3 rfl rfl dL_law_169 ?_
      refine g_iconst F dL_law_170 ?_
      refine g_iadd F dL_law_171 ?_
      refine g_sld F hX hbl hbA (i + 1) (by omega) (by omega) (by omega) dL_law_172 ?_
      rw [← hz1e]
      refine g_aload_n F 0 rfl rfl dL_law_173 ?_
      refine g_iload_n F 3 rfl rfl dL_law_174 ?_
      refine g_iconst F dL_law_175 ?_
      refine g_iadd F dL_law_176 ?_
      refine g_sld F hX hbl hbA (i + 2) (by omega) (by omega) (by omega) dL_law_177 ?_
      rw [← hz2e]
      refine g_aload_n F 0 rfl rfl dL_law_178 ?_
      refine g_iload_n F 3 rfl rfl dL_law_179 ?_
      refine g_iconst F dL_law_180 ?_
      refine g_iadd F dL_law_181 ?_
      refine g_sld F hX hbl hbA (i + 3) (by omega) (by omega) (by omega) dL_law_182 ?_
      rw [← hz3e]
      refine g_callVP F (As := [iv z1, iv z2, iv z3]) (rest := [iv (-2000000003)]) (wr := wfl [wC cA x (pg 0) (bt 0) (se 0) (qr 0) (hd 0) so, wS cA se tbf (bSp X) (bSg X), wP cA pg kd lo hi co pa rk nu ct sa ((nc : Nat) : Int) ((nr : Nat) : Int), wB cA bt (bBs X).1 (bBs X).2.1 (bBs X).2.2.1 (bBs X).2.2.2, wQ cA qr (tq 0) ql qc, wTS cA tq n1 S, wH cA hd pl pr pu qu, wME cA md fr cs cn ck ch tb cr, wMX cA md fx fv sn, wMB cA md be tr wy, wMH cA md pl pr, poolE cA ad (bTb X) (fun _ => false) k]) (kX7_column l D cA md nc nr ke so bu bc pu qu fs cd un hb pf ef kd lo hi co pa rk nu ct sa z1 z2 z3 (by first | assumption | omega) (by first | assumption | omega) (by first | assumption | omega) (by first | assumption | omega) (by first | assumption | omega) (by first | assumption | omega) (by first | assumption | omega) (by first | assumption | omega)) (cwV 3 F.2.2.2.2.1 gL_law_X7_column rfl rfl rfl (by decide +kernel) ⟨(Nat.le_of_ble_eq_true rfl), (Nat.le_of_ble_eq_true rfl)⟩) rfl rfl (q0 := 0) rfl (wf_split (n := 14) (C := [wMO cA md ((nc : Nat) : Int) ((nr : Nat) : Int) ke so bu bc pu qu fs cd un hb pf ef, wMP cA md kd lo hi co pa rk nu ct sa]) (R := [wC cA x (pg 0) (bt 0) (se 0) (qr 0) (hd 0) so, wS cA se tbf (bSp X) (bSg X), wP cA pg kd lo hi co pa rk nu ct sa ((nc : Nat) : Int) ((nr : Nat) : Int), wB cA bt (bBs X).1 (bBs X).2.1 (bBs X).2.2.1 (bBs X).2.2.2, wQ cA qr (tq 0) ql qc, wTS cA tq n1 S, wH cA hd pl pr pu qu, wME cA md fr cs cn ck ch tb cr, wMX cA md fx fv sn, wMB cA md be tr wy, wMH cA md pl pr, poolE cA ad (bTb X) (fun _ => false) k]) [7, 8, 0, 1, 2, 3, 4, 5, 6, 9, 10, 11, 12, 13] rfl (by decide) rfl) rfl rfl (Nat.le_of_ble_eq_true rfl) ⟨by show kc + 0 ≤ 600000; omega, by show ks + 0 ≤ 7302250; omega⟩ hA dL_law_183 (fun v w hv => ?_)
      obtain ⟨hv, hw⟩ := hv
      rw [if_pos h1, if_pos h2] at hv
      rw [if_neg (fun z => absurd z.2 (by omega))] at hw
      subst hv
      subst hw
      refine g_perm (wfl [wC cA x (pg 0) (bt 0) (se 0) (qr 0) (hd 0) so, wS cA se tbf (bSp X) (bSg X), wP cA pg kd lo hi co pa rk nu ct sa ((nc : Nat) : Int) ((nr : Nat) : Int), wB cA bt (bBs X).1 (bBs X).2.1 (bBs X).2.2.1 (bBs X).2.2.2, wQ cA qr (tq 0) ql qc, wTS cA tq n1 S, wH cA hd pl pr pu qu, wMO cA md ((nc : Nat) : Int) ((nr : Nat) : Int) ke so bu bc pu qu fs cd un hb pf ef, wMP cA md kd lo hi co pa rk nu ct sa, wME cA md fr cs cn ck ch tb cr, wMX cA md fx fv sn, wMB cA md be tr wy, wMH cA md pl pr, poolE cA ad (bTb X) (fun _ => false) k]) (wf_split (n := 14) (C := [wC cA x (pg 0) (bt 0) (se 0) (qr 0) (hd 0) so, wS cA se tbf (bSp X) (bSg X), wP cA pg kd lo hi co pa rk nu ct sa ((nc : Nat) : Int) ((nr : Nat) : Int), wB cA bt (bBs X).1 (bBs X).2.1 (bBs X).2.2.1 (bBs X).2.2.2, wQ cA qr (tq 0) ql qc, wTS cA tq n1 S, wH cA hd pl pr pu qu, wME cA md fr cs cn ck ch tb cr, wMX cA md fx fv sn, wMB cA md be tr wy, wMH cA md pl pr, poolE cA ad (bTb X) (fun _ => false) k]) (R := [wMO cA md ((nc : Nat) : Int) ((nr : Nat) : Int) ke so bu bc pu qu fs cd un hb pf ef, wMP cA md kd lo hi co pa rk nu ct sa]) [0, 1, 2, 3, 4, 5, 6, 9, 10, 11, 12, 13, 7, 8] rfl (by decide) rfl).symm ?_
      refine g_eq (st' := [iv (-2000000003), iv (-2000000003)]) rfl rfl rfl ?_
      refine g_ieq F (tgt := 887) (rfl) dL_law_186 (by decide) ?_
      refine g_widen (kc + 364) (ks + 8112) (by omega) (by omega) ?_
      exact hk kd lo hi co pa rk nu ct sa nc nr so X k ad tbf ql qc n1 S pl pr pu qu ke bu bc fs cd un hb pf ef fr cs cn ck ch tb cr fx fv sn be tr wy (hI)
    · skip
      refine g_aload_n F 1 rfl rfl dL_law_148 ?_
      refine g_aload_n F 0 rfl rfl dL_law_149 ?_
      refine g_iload_n F 3 rfl rfl dL_law_150 ?_
      refine g_iconst F dL_law_151 ?_
      refine g_iadd F dL_law_152 ?_
      refine g_sld F hX hbl hbA (i + 1) (by omega) (by omega) (by omega) dL_law_153 ?_
      rw [← hz1e]
      refine g_aload_n F 0 rfl rfl dL_law_154 ?_
      refine g_iload_n F 3 rfl rfl dL_law_155 ?_
      refine g_iconst F dL_law_156 ?_
      refine g_iadd F dL_law_157 ?_
      refine g_sld F hX hbl hbA (i + 2) (by omega) (by omega) (by omega) dL_law_158 ?_
      rw [← hz2e]
      refine g_aload_n F 0 rfl rfl dL_law_159 ?_
      refine g_iload_n F 3 rfl rfl dL_law_160 ?_
      refine g_iconst F dL_law_161 ?_
      refine g_iadd F dL_law_162 ?_
      refine g_sld F hX hbl hbA (i + 3) (by omega) (by omega) (by omega) dL_law_163 ?_
      rw [← hz3e]
      refine g_callVP F (As := [iv z1, iv z2, iv z3]) (rest := []) (wr := wfl [wS cA se tbf (bSp X) (bSg X), wB cA bt (bBs X).1 (bBs X).2.1 (bBs X).2.2.1 (bBs X).2.2.2, wQ cA qr (tq 0) ql qc, wTS cA tq n1 S, wH cA hd pl pr pu qu, wMO cA md ((nc : Nat) : Int) ((nr : Nat) : Int) ke so bu bc pu qu fs cd un hb pf ef, wMP cA md kd lo hi co pa rk nu ct sa, wME cA md fr cs cn ck ch tb cr, wMX cA md fx fv sn, wMB cA md be tr wy, wMH cA md pl pr, poolE cA ad (bTb X) (fun _ => false) k]) (kX6_column l D cA x (bt 0) (se 0) (qr 0) (hd 0) so pg kd lo hi co pa rk nu ct sa nc nr z1 z2 z3 (by first | assumption | omega) (by first | assumption | omega) (by first | assumption | omega) (by first | assumption | omega) (by first | assumption | omega) (by first | assumption | omega)) (cwV 3 F.2.2.2.2.1 gL_law_X6_column rfl rfl rfl (by decide +kernel) ⟨(Nat.le_of_ble_eq_true rfl), (Nat.le_of_ble_eq_true rfl)⟩) rfl rfl (q0 := 0) rfl (wf_split (n := 14) (C := [wC cA x (pg 0) (bt 0) (se 0) (qr 0) (hd 0) so, wP cA pg kd lo hi co pa rk nu ct sa ((nc : Nat) : Int) ((nr : Nat) : Int)]) (R := [wS cA se tbf (bSp X) (bSg X), wB cA bt (bBs X).1 (bBs X).2.1 (bBs X).2.2.1 (bBs X).2.2.2, wQ cA qr (tq 0) ql qc, wTS cA tq n1 S, wH cA hd pl pr pu qu, wMO cA md ((nc : Nat) : Int) ((nr : Nat) : Int) ke so bu bc pu qu fs cd un hb pf ef, wMP cA md kd lo hi co pa rk nu ct sa, wME cA md fr cs cn ck ch tb cr, wMX cA md fx fv sn, wMB cA md be tr wy, wMH cA md pl pr, poolE cA ad (bTb X) (fun _ => false) k]) [0, 2, 1, 3, 4, 5, 6, 7, 8, 9, 10, 11, 12, 13] rfl (by decide) rfl) rfl rfl (Nat.le_of_ble_eq_true rfl) ⟨by show kc + 0 ≤ 600000; omega, by show ks + 0 ≤ 7302250; omega⟩ hA dL_law_164 (fun v w hv => ?_)
      obtain ⟨hv, hw⟩ := hv
      rw [if_pos h1, if_neg h2] at hv
      rw [if_pos (⟨h1, by omega⟩ : ((0 ≤ z1 ∧ z1 ≤ 2) ∧ fitsP z1 z2 z3) ∧ nc < 5)] at hw
      subst hv
      subst hw
      refine g_perm (wfl [wC cA x (pg 0) (bt 0) (se 0) (qr 0) (hd 0) so, wS cA se tbf (bSp X) (bSg X), wP cA pg (va_up kd nc z1) (va_up lo nc (if z1 = 2 then 0 else z2)) (va_up hi nc (if z1 = 2 then 1 else z3)) co (va_up pa nc (-2000000005)) rk nu ct sa ((nc + 1 : Nat) : Int) ((nr : Nat) : Int), wB cA bt (bBs X).1 (bBs X).2.1 (bBs X).2.2.1 (bBs X).2.2.2, wQ cA qr (tq 0) ql qc, wTS cA tq n1 S, wH cA hd pl pr pu qu, wMO cA md ((nc : Nat) : Int) ((nr : Nat) : Int) ke so bu bc pu qu fs cd un hb pf ef, wMP cA md kd lo hi co pa rk nu ct sa, wME cA md fr cs cn ck ch tb cr, wMX cA md fx fv sn, wMB cA md be tr wy, wMH cA md pl pr, poolE cA ad (bTb X) (fun _ => false) k]) (wf_split (n := 14) (C := [wS cA se tbf (bSp X) (bSg X), wB cA bt (bBs X).1 (bBs X).2.1 (bBs X).2.2.1 (bBs X).2.2.2, wQ cA qr (tq 0) ql qc, wTS cA tq n1 S, wH cA hd pl pr pu qu, wMO cA md ((nc : Nat) : Int) ((nr : Nat) : Int) ke so bu bc pu qu fs cd un hb pf ef, wMP cA md kd lo hi co pa rk nu ct sa, wME cA md fr cs cn ck ch tb cr, wMX cA md fx fv sn, wMB cA md be tr wy, wMH cA md pl pr, poolE cA ad (bTb X) (fun _ => false) k]) (R := [wC cA x (pg 0) (bt 0) (se 0) (qr 0) (hd 0) so, wP cA pg (va_up kd nc z1) (va_up lo nc (if z1 = 2 then 0 else z2)) (va_up hi nc (if z1 = 2 then 1 else z3)) co (va_up pa nc (-2000000005)) rk nu ct sa ((nc + 1 : Nat) : Int) ((nr : Nat) : Int)]) [1, 3, 4, 5, 6, 7, 8, 9, 10, 11, 12, 13, 0, 2] rfl (by decide) rfl).symm ?_
      refine g_eq (st' := [iv ((nc : Int))]) rfl rfl rfl ?_
      refine g_aload_n F 2 rfl rfl dL_law_167 ?_
      refine g_aload_n F 0 rfl rfl dL_law_168 ?_
      refine g_iload_n F 3 rfl rfl dL_law_169 ?_
      refine g_iconst F dL_law_170 ?_
      refine g_iadd F dL_law_171 ?_
      refine g_sld F hX hbl hbA (i + 1) (by omega) (by omega) (by omega) dL_law_172 ?_
      rw [← hz1e]
      refine g_aload_n F 0 rfl rfl dL_law_173 ?_
      refine g_iload_n F 3 rfl rfl dL_law_174 ?_
      refine g_iconst F dL_law_175 ?_
      refine g_iadd F dL_law_176 ?_
      refine g_sld F hX hbl hbA (i + 2) (by omega) (by omega) (by omega) dL_law_177 ?_
      rw [← hz2e]
      refine g_aload_n F 0 rfl rfl dL_law_178 ?_
      refine g_iload_n F 3 rfl rfl dL_law_179 ?_
      refine g_iconst F dL_law_180 ?_
      refine g_iadd F dL_law_181 ?_
      refine g_sld F hX hbl hbA (i + 3) (by omega) (by omega) (by omega) dL_law_182 ?_
      rw [← hz3e]
      refine g_callVP F (As := [iv z1, iv z2, iv z3]) (rest := [iv ((nc : Int))]) (wr := wfl [wC cA x (pg 0) (bt 0) (se 0) (qr 0) (hd 0) so, wS cA se tbf (bSp X) (bSg X), wP cA pg (va_up kd nc z1) (va_up lo nc (if z1 = 2 then 0 else z2)) (va_up hi nc (if z1 = 2 then 1 else z3)) co (va_up pa nc (-2000000005)) rk nu ct sa ((nc + 1 : Nat) : Int) ((nr : Nat) : Int), wB cA bt (bBs X).1 (bBs X).2.1 (bBs X).2.2.1 (bBs X).2.2.2, wQ cA qr (tq 0) ql qc, wTS cA tq n1 S, wH cA hd pl pr pu qu, wME cA md fr cs cn ck ch tb cr, wMX cA md fx fv sn, wMB cA md be tr wy, wMH cA md pl pr, poolE cA ad (bTb X) (fun _ => false) k]) (kX7_column l D cA md nc nr ke so bu bc pu qu fs cd un hb pf ef kd lo hi co pa rk nu ct sa z1 z2 z3 (by first | assumption | omega) (by first | assumption | omega) (by first | assumption | omega) (by first | assumption | omega) (by first | assumption | omega) (by first | assumption | omega) (by first | assumption | omega) (by first | assumption | omega)) (cwV 3 F.2.2.2.2.1 gL_law_X7_column rfl rfl rfl (by decide +kernel) ⟨(Nat.le_of_ble_eq_true rfl), (Nat.le_of_ble_eq_true rfl)⟩) rfl rfl (q0 := 0) rfl (wf_split (n := 14) (C := [wMO cA md ((nc : Nat) : Int) ((nr : Nat) : Int) ke so bu bc pu qu fs cd un hb pf ef, wMP cA md kd lo hi co pa rk nu ct sa]) (R := [wC cA x (pg 0) (bt 0) (se 0) (qr 0) (hd 0) so, wS cA se tbf (bSp X) (bSg X), wP cA pg (va_up kd nc z1) (va_up lo nc (if z1 = 2 then 0 else z2)) (va_up hi nc (if z1 = 2 then 1 else z3)) co (va_up pa nc (-2000000005)) rk nu ct sa ((nc + 1 : Nat) : Int) ((nr : Nat) : Int), wB cA bt (bBs X).1 (bBs X).2.1 (bBs X).2.2.1 (bBs X).2.2.2, wQ cA qr (tq 0) ql qc, wTS cA tq n1 S, wH cA hd pl pr pu qu, wME cA md fr cs cn ck ch tb cr, wMX cA md fx fv sn, wMB cA md be tr wy, wMH cA md pl pr, poolE cA ad (bTb X) (fun _ => false) k]) [7, 8, 0, 1, 2, 3, 4, 5, 6, 9, 10, 11, 12, 13] rfl (by decide) rfl) rfl rfl (Nat.le_of_ble_eq_true rfl) ⟨by show kc + 0 ≤ 600000; omega, by show ks + 0 ≤ 7302250; omega⟩ hA dL_law_183 (fun v w hv => ?_)
      obtain ⟨hv, hw⟩ := hv
      rw [if_pos h1, if_neg h2] at hv
      rw [if_pos (⟨h1, by omega⟩ : ((0 ≤ z1 ∧ z1 ≤ 2) ∧ fitsP z1 z2 z3) ∧ nc < 5)] at hw
      subst hv
      subst hw
      refine g_perm (wfl [wC cA x (pg 0) (bt 0) (se 0) (qr 0) (hd 0) so, wS cA se tbf (bSp X) (bSg X), wP cA pg (va_up kd nc z1) (va_up lo nc (if z1 = 2 then 0 else z2)) (va_up hi nc (if z1 = 2 then 1 else z3)) co (va_up pa nc (-2000000005)) rk nu ct sa ((nc + 1 : Nat) : Int) ((nr : Nat) : Int), wB cA bt (bBs X).1 (bBs X).2.1 (bBs X).2.2.1 (bBs X).2.2.2, wQ cA qr (tq 0) ql qc, wTS cA tq n1 S, wH cA hd pl pr pu qu, wMO cA md ((nc + 1 : Nat) : Int) ((nr : Nat) : Int) ke so bu bc pu qu fs cd un hb pf ef, wMP cA md (va_up kd nc z1) (va_up lo nc (if z1 = 2 then 0 else z2)) (va_up hi nc (if z1 = 2 then 1 else z3)) co (va_up pa nc (-2000000005)) rk nu ct sa, wME cA md fr cs cn ck ch tb cr, wMX cA md fx fv sn, wMB cA md be tr wy, wMH cA md pl pr, poolE cA ad (bTb X) (fun _ => false) k]) (wf_split (n := 14) (C := [wC cA x (pg 0) (bt 0) (se 0) (qr 0) (hd 0) so, wS cA se tbf (bSp X) (bSg X), wP cA pg (va_up kd nc z1) (va_up lo nc (if z1 = 2 then 0 else z2)) (va_up hi nc (if z1 = 2 then 1 else z3)) co (va_up pa nc (-2000000005)) rk nu ct sa ((nc + 1 : Nat) : Int) ((nr : Nat) : Int), wB cA bt (bBs X).1 (bBs X).2.1 (bBs X).2.2.1 (bBs X).2.2.2, wQ cA qr (tq 0) ql qc, wTS cA tq n1 S, wH cA hd pl pr pu qu, wME cA md fr cs cn ck ch tb cr, wMX cA md fx fv sn, wMB cA md be tr wy, wMH cA md pl pr, poolE cA ad (bTb X) (fun _ => false) k]) (R := [wMO cA md ((nc + 1 : Nat) : Int) ((nr : Nat) : Int) ke so bu bc pu qu fs cd un hb pf ef, wMP cA md (va_up kd nc z1) (va_up lo nc (if z1 = 2 then 0 else z2)) (va_up hi nc (if z1 = 2 then 1 else z3)) co (va_up pa nc (-2000000005)) rk nu ct sa]) [0, 1, 2, 3, 4, 5, 6, 9, 10, 11, 12, 13, 7, 8] rfl (by decide) rfl).symm ?_
      refine g_eq (st' := [iv ((nc : Int)), iv ((nc : Int))]) rfl rfl rfl ?_
      refine g_ieq F (tgt := 887) (rfl) dL_law_186 (by decide) ?_
      refine g_widen (kc + 364) (ks + 8112) (by omega) (by omega) ?_
      exact hk (va_up kd nc z1) (va_up lo nc (if z1 = 2 then 0 else z2)) (va_up hi nc (if z1 = 2 then 1 else z3)) co (va_up pa nc (-2000000005)) rk nu ct sa (nc + 1) nr so X k ad tbf ql qc n1 S pl pr pu qu ke bu bc fs cd un hb pf ef fr cs cn ck ch tb cr fx fv sn be tr wy (⟨pr_column hpr0 (by omega) h1.1 h1.2, hI.2⟩)
  · skip
    refine g_aload_n F 1 rfl rfl dL_law_148 ?_
    refine g_aload_n F 0 rfl rfl dL_law_149 ?_
    refine g_iload_n F 3 rfl rfl dL_law_150 ?_
    refine g_iconst F dL_law_151 ?_
    refine g_iadd F dL_law_152 ?_
    refine g_sld F hX hbl hbA (i + 1) (by omega) (by omega) (by omega) dL_law_153 ?_
    rw [← hz1e]
    refine g_aload_n F 0 rfl rfl dL_law_154 ?_
    refine g_iload_n F 3 rfl rfl dL_law_155 ?_
    refine g_iconst F dL_law_156 ?_
    refine g_iadd F dL_law_157 ?_
    refine g_sld F hX hbl hbA (i + 2) (by omega) (by omega) (by omega) dL_law_158 ?_
    rw [← hz2e]
    refine g_aload_n F 0 rfl rfl dL_law_159 ?_
    refine g_iload_n F 3 rfl rfl dL_law_160 ?_
    refine g_iconst F dL_law_161 ?_
    refine g_iadd F dL_law_162 ?_
    refine g_sld F hX hbl hbA (i + 3) (by omega) (by omega) (by omega) dL_law_163 ?_
    rw [← hz3e]
    refine g_callVP F (As := [iv z1, iv z2, iv z3]) (rest := []) (wr := wfl [wS cA se tbf (bSp X) (bSg X), wB cA bt (bBs X).1 (bBs X).2.1 (bBs X).2.2.1 (bBs X).2.2.2, wQ cA qr (tq 0) ql qc, wTS cA tq n1 S, wH cA hd pl pr pu qu, wMO cA md ((nc : Nat) : Int) ((nr : Nat) : Int) ke so bu bc pu qu fs cd un hb pf ef, wMP cA md kd lo hi co pa rk nu ct sa, wME cA md fr cs cn ck ch tb cr, wMX cA md fx fv sn, wMB cA md be tr wy, wMH cA md pl pr, poolE cA ad (bTb X) (fun _ => false) k]) (kX6_column l D cA x (bt 0) (se 0) (qr 0) (hd 0) so pg kd lo hi co pa rk nu ct sa nc nr z1 z2 z3 (by first | assumption | omega) (by first | assumption | omega) (by first | assumption | omega) (by first | assumption | omega) (by first | assumption | omega) (by first | assumption | omega)) (cwV 3 F.2.2.2.2.1 gL_law_X6_column rfl rfl rfl (by decide +kernel) ⟨(Nat.le_of_ble_eq_true rfl), (Nat.le_of_ble_eq_true rfl)⟩) rfl rfl (q0 := 0) rfl (wf_split (n := 14) (C := [wC cA x (pg 0) (bt 0) (se 0) (qr 0) (hd 0) so, wP cA pg kd lo hi co pa rk nu ct sa ((nc : Nat) : Int) ((nr : Nat) : Int)]) (R := [wS cA se tbf (bSp X) (bSg X), wB cA bt (bBs X).1 (bBs X).2.1 (bBs X).2.2.1 (bBs X).2.2.2, wQ cA qr (tq 0) ql qc, wTS cA tq n1 S, wH cA hd pl pr pu qu, wMO cA md ((nc : Nat) : Int) ((nr : Nat) : Int) ke so bu bc pu qu fs cd un hb pf ef, wMP cA md kd lo hi co pa rk nu ct sa, wME cA md fr cs cn ck ch tb cr, wMX cA md fx fv sn, wMB cA md be tr wy, wMH cA md pl pr, poolE cA ad (bTb X) (fun _ => false) k]) [0, 2, 1, 3, 4, 5, 6, 7, 8, 9, 10, 11, 12, 13] rfl (by decide) rfl) rfl rfl (Nat.le_of_ble_eq_true rfl) ⟨by show kc + 0 ≤ 600000; omega, by show ks + 0 ≤ 7302250; omega⟩ hA dL_law_164 (fun v w hv => ?_)
    obtain ⟨hv, hw⟩ := hv
    rw [if_neg h1] at hv
    rw [if_neg (fun z => h1 z.1)] at hw
    subst hv
    subst hw
    refine g_perm (wfl [wC cA x (pg 0) (bt 0) (se 0) (qr 0) (hd 0) so, wS cA se tbf (bSp X) (bSg X), wP cA pg kd lo hi co pa rk nu ct sa ((nc : Nat) : Int) ((nr : Nat) : Int), wB cA bt (bBs X).1 (bBs X).2.1 (bBs X).2.2.1 (bBs X).2.2.2, wQ cA qr (tq 0) ql qc, wTS cA tq n1 S, wH cA hd pl pr pu qu, wMO cA md ((nc : Nat) : Int) ((nr : Nat) : Int) ke so bu bc pu qu fs cd un hb pf ef, wMP cA md kd lo hi co pa rk nu ct sa, wME cA md fr cs cn ck ch tb cr, wMX cA md fx fv sn, wMB cA md be tr wy, wMH cA md pl pr, poolE cA ad (bTb X) (fun _ => false) k]) (wf_split (n := 14) (C := [wS cA se tbf (bSp X) (bSg X), wB cA bt (bBs X).1 (bBs X).2.1 (bBs X).2.2.1 (bBs X).2.2.2, wQ cA qr (tq 0) ql qc, wTS cA tq n1 S, wH cA hd pl pr pu qu, wMO cA md ((nc : Nat) : Int) ((nr : Nat) : Int) ke so bu bc pu qu fs cd un hb pf ef, wMP cA md kd lo hi co pa rk nu ct sa, wME cA md fr cs cn ck ch tb cr, wMX cA md fx fv sn, wMB cA md be tr wy, wMH cA md pl pr, poolE cA ad (bTb X) (fun _ => false) k]) (R := [wC cA x (pg 0) (bt 0) (se 0) (qr 0) (hd 0) so, wP cA pg kd lo hi co pa rk nu ct sa ((nc : Nat) : Int) ((nr : Nat) : Int)]) [1, 3, 4, 5, 6, 7, 8, 9, 10, 11, 12, 13, 0, 2] rfl (by decide) rfl).symm ?_
    refine g_eq (st' := [iv (-2000000001)]) rfl rfl rfl ?_
    refine g_aload_n F 2 rfl rfl dL_law_167 ?_
    refine g_aload_n F 0 rfl rfl dL_law_168 ?_
    refine g_iload_n F 3 rfl rfl dL_law_169 ?_
    refine g_iconst F dL_law_170 ?_
    refine g_iadd F dL_law_171 ?_
    refine g_sld F hX hbl hbA (i + 1) (by omega) (by omega) (by omega) dL_law_172 ?_
    rw [← hz1e]
    refine g_aload_n F 0 rfl rfl dL_law_173 ?_
    refine g_iload_n F 3 rfl rfl dL_law_174 ?_
    refine g_iconst F dL_law_175 ?_
    refine g_iadd F dL_law_176 ?_
    refine g_sld F hX hbl hbA (i + 2) (by omega) (by omega) (by omega) dL_law_177 ?_
    rw [← hz2e]
    refine g_aload_n F 0 rfl rfl dL_law_178 ?_
    refine g_iload_n F 3 rfl rfl dL_law_179 ?_
    refine g_iconst F dL_law_180 ?_
    refine g_iadd F dL_law_181 ?_
    refine g_sld F hX hbl hbA (i + 3) (by omega) (by omega) (by omega) dL_law_182 ?_
    rw [← hz3e]
    refine g_callVP F (As := [iv z1, iv z2, iv z3]) (rest := [iv (-2000000001)]) (wr := wfl [wC cA x (pg 0) (bt 0) (se 0) (qr 0) (hd 0) so, wS cA se tbf (bSp X) (bSg X), wP cA pg kd lo hi co pa rk nu ct sa ((nc : Nat) : Int) ((nr : Nat) : Int), wB cA bt (bBs X).1 (bBs X).2.1 (bBs X).2.2.1 (bBs X).2.2.2, wQ cA qr (tq 0) ql qc, wTS cA tq n1 S, wH cA hd pl pr pu qu, wME cA md fr cs cn ck ch tb cr, wMX cA md fx fv sn, wMB cA md be tr wy, wMH cA md pl pr, poolE cA ad (bTb X) (fun _ => false) k]) (kX7_column l D cA md nc nr ke so bu bc pu qu fs cd un hb pf ef kd lo hi co pa rk nu ct sa z1 z2 z3 (by first | assumption | omega) (by first | assumption | omega) (by first | assumption | omega) (by first | assumption | omega) (by first | assumption | omega) (by first | assumption | omega) (by first | assumption | omega) (by first | assumption | omega)) (cwV 3 F.2.2.2.2.1 gL_law_X7_column rfl rfl rfl (by decide +kernel) ⟨(Nat.le_of_ble_eq_true rfl), (Nat.le_of_ble_eq_true rfl)⟩) rfl rfl (q0 := 0) rfl (wf_split (n := 14) (C := [wMO cA md ((nc : Nat) : Int) ((nr : Nat) : Int) ke so bu bc pu qu fs cd un hb pf ef, wMP cA md kd lo hi co pa rk nu ct sa]) (R := [wC cA x (pg 0) (bt 0) (se 0) (qr 0) (hd 0) so, wS cA se tbf (bSp X) (bSg X), wP cA pg kd lo hi co pa rk nu ct sa ((nc : Nat) : Int) ((nr : Nat) : Int), wB cA bt (bBs X).1 (bBs X).2.1 (bBs X).2.2.1 (bBs X).2.2.2, wQ cA qr (tq 0) ql qc, wTS cA tq n1 S, wH cA hd pl pr pu qu, wME cA md fr cs cn ck ch tb cr, wMX cA md fx fv sn, wMB cA md be tr wy, wMH cA md pl pr, poolE cA ad (bTb X) (fun _ => false) k]) [7, 8, 0, 1, 2, 3, 4, 5, 6, 9, 10, 11, 12, 13] rfl (by decide) rfl) rfl rfl (Nat.le_of_ble_eq_true rfl) ⟨by show kc + 0 ≤ 600000; omega, by show ks + 0 ≤ 7302250; omega⟩ hA dL_law_183 (fun v w hv => ?_)
    obtain ⟨hv, hw⟩ := hv
    rw [if_neg h1] at hv
    rw [if_neg (fun z => h1 z.1)] at hw
    subst hv
    subst hw
    refine g_perm (wfl [wC cA x (pg 0) (bt 0) (se 0) (qr 0) (hd 0) so, wS cA se tbf (bSp X) (bSg X), wP cA pg kd lo hi co pa rk nu ct sa ((nc : Nat) : Int) ((nr : Nat) : Int), wB cA bt (bBs X).1 (bBs X).2.1 (bBs X).2.2.1 (bBs X).2.2.2, wQ cA qr (tq 0) ql qc, wTS cA tq n1 S, wH cA hd pl pr pu qu, wMO cA md ((nc : Nat) : Int) ((nr : Nat) : Int) ke so bu bc pu qu fs cd un hb pf ef, wMP cA md kd lo hi co pa rk nu ct sa, wME cA md fr cs cn ck ch tb cr, wMX cA md fx fv sn, wMB cA md be tr wy, wMH cA md pl pr, poolE cA ad (bTb X) (fun _ => false) k]) (wf_split (n := 14) (C := [wC cA x (pg 0) (bt 0) (se 0) (qr 0) (hd 0) so, wS cA se tbf (bSp X) (bSg X), wP cA pg kd lo hi co pa rk nu ct sa ((nc : Nat) : Int) ((nr : Nat) : Int), wB cA bt (bBs X).1 (bBs X).2.1 (bBs X).2.2.1 (bBs X).2.2.2, wQ cA qr (tq 0) ql qc, wTS cA tq n1 S, wH cA hd pl pr pu qu, wME cA md fr cs cn ck ch tb cr, wMX cA md fx fv sn, wMB cA md be tr wy, wMH cA md pl pr, poolE cA ad (bTb X) (fun _ => false) k]) (R := [wMO cA md ((nc : Nat) : Int) ((nr : Nat) : Int) ke so bu bc pu qu fs cd un hb pf ef, wMP cA md kd lo hi co pa rk nu ct sa]) [0, 1, 2, 3, 4, 5, 6, 9, 10, 11, 12, 13, 7, 8] rfl (by decide) rfl).symm ?_
    refine g_eq (st' := [iv (-2000000001), iv (-2000000001)]) rfl rfl rfl ?_
    refine g_ieq F (tgt := 887) (rfl) dL_law_186 (by decide) ?_
    refine g_widen (kc + 364) (ks + 8112) (by omega) (by omega) ?_
    exact hk kd lo hi co pa rk nu ct sa nc nr so X k ad tbf ql qc n1 S pl pr pu qu ke bu bc fs cd un hb pf ef fr cs cn ck ch tb cr fx fv sn be tr wy (hI)

set_option maxHeartbeats 4000000 in
set_option maxRecDepth 100000 in
theorem lc_row {p : Program} {l : Launch} {e : Env} {s : State} {m : MethodId} {below : List Frame} {meth : Method} {c : Code} {Q : State → Prop} {D : va_G} {cA : Nat → ClassId} {A : Nat → Prop} {sb Ln : Nat} {xs : Nat → Int32} {x se pg bt qr tq hd md : Nat → Nat} (F : Fx p s m #[Value.ref sb] meth c cL_law 4 RL wsL_law ret D cA) (hA : ∀ q, s.heap.size ≤ q → A q) (hX : va_X sb Ln xs s s.heap) (hbl : sb < s.heap.size) (hbA : ¬ A sb) (hL : Ln ≤ 2048) (i : Nat) (hi : i + 4 ≤ Ln) (kc ks : Nat) (hkc : kc + 364 ≤ 600000 ∧ ks + 8112 ≤ 7302250) (hk : lwN p l e s m sb below meth c Q D cA A x se pg bt qr tq hd md i (kc + 364) (ks + 8112) 887) : lwN p l e s m sb below meth c Q D cA A x se pg bt qr tq hd md i kc ks 300 := by
  intro kd lo hi co pa rk nu ct sa nc nr so X k ad tbf ql qc n1 S pl pr pu qu ke bu bc fs cd un hb pf ef fr cs cn ck ch tb cr fx fv sn be tr wy hI
  obtain ⟨hpr0, ⟨hS, hbd, hbo, hk51, ht1, ht2, h00⟩, ⟨hSq, hzq⟩, ⟨hpl, hpb, hpr, hqb⟩, ⟨hbm, hke⟩, hrel⟩ := id hI
  obtain ⟨hP, hR, hco, hpa5, hpaN, hle, zs, zc⟩ := id hpr0
  have qnc := hP.1
  have qkd := hP.2.1
  have qlo := hP.2.2.1
  have qhi : ∀ j, hi j = -2000000005 ∨ (-20 ≤ hi j ∧ hi j ≤ 20) := hP.2.2.2.1
  have qnr := hR.1
  have qrk := hR.2.1
  have qnu := hR.2.2.1
  have qnu2 : ∀ j, -198 ≤ nu j ∧ nu j ≤ 198 := fun j => by have := qnu j; omega
  have qsa := hR.2.2.2.1
  have qct := hR.2.2.2.2
  have hbb := hbd.1
  have hbc9 := hbd.2.1
  have hbv := hbd.2.2
  have hbu9 : 0 < bu ∧ bu ≤ 8000000 := hbm.1
  have hbcm : -200000000000 ≤ bc ∧ bc ≤ 200000000000 := hbm.2.1
  have hbem : ∀ j, -200000000000 ≤ be j ∧ be j ≤ 200000000000 := hbm.2.2
  have hpb1 : 1 ≤ pu ∧ pu ≤ 2000000000 := by omega
  have hV := @IM_P D s A
  have hz1 : -2147483648 ≤ (xs (i + 1)).toInt ∧ (xs (i + 1)).toInt ≤ 2147483647 := i32_rng _
  have hz2 : -2147483648 ≤ (xs (i + 2)).toInt ∧ (xs (i + 2)).toInt ≤ 2147483647 := i32_rng _
  have hz3 : -2147483648 ≤ (xs (i + 3)).toInt ∧ (xs (i + 3)).toInt ≤ 2147483647 := i32_rng _
  obtain ⟨z1, hz1e⟩ : ∃ z, z = (xs (i + 1)).toInt := ⟨_, rfl⟩
  obtain ⟨z2, hz2e⟩ : ∃ z, z = (xs (i + 2)).toInt := ⟨_, rfl⟩
  obtain ⟨z3, hz3e⟩ : ∃ z, z = (xs (i + 3)).toInt := ⟨_, rfl⟩
  rw [← hz1e] at hz1
  rw [← hz2e] at hz2
  rw [← hz3e] at hz3
  by_cases h1 : (0 ≤ z1 ∧ z1 ≤ 2) ∧ -99 ≤ z2 ∧ z2 ≤ 99
  · by_cases h2 : 7 ≤ nr
    · skip
      refine g_aload_n F 1 rfl rfl dL_law_300 ?_
      refine g_aload_n F 0 rfl rfl dL_law_301 ?_
      refine g_iload_n F 3 rfl rfl dL_law_302 ?_
      refine g_iconst F dL_law_303 ?_
      refine g_iadd F dL_law_304 ?_
      refine g_sld F hX hbl hbA (i + 1) (by omega) (by omega) (by omega) dL_law_305 ?_
      rw [← hz1e]
      refine g_aload_n F 0 rfl rfl dL_law_306 ?_
      refine g_iload_n F 3 rfl rfl dL_law_307 ?_
      refine g_iconst F dL_law_308 ?_
      refine g_iadd F dL_law_309 ?_
      refine g_sld F hX hbl hbA (i + 2) (by omega) (by omega) (by omega) dL_law_310 ?_
      rw [← hz2e]
      refine g_callVP F (As := [iv z1, iv z2]) (rest := []) (wr := wfl [wS cA se tbf (bSp X) (bSg X), wB cA bt (bBs X).1 (bBs X).2.1 (bBs X).2.2.1 (bBs X).2.2.2, wQ cA qr (tq 0) ql qc, wTS cA tq n1 S, wH cA hd pl pr pu qu, wMO cA md ((nc : Nat) : Int) ((nr : Nat) : Int) ke so bu bc pu qu fs cd un hb pf ef, wMP cA md kd lo hi co pa rk nu ct sa, wME cA md fr cs cn ck ch tb cr, wMX cA md fx fv sn, wMB cA md be tr wy, wMH cA md pl pr, poolE cA ad (bTb X) (fun _ => false) k]) (kX6_row l D cA x (bt 0) (se 0) (qr 0) (hd 0) so pg kd lo hi co pa rk nu ct sa nc nr z1 z2 (by first | assumption | omega) (by first | assumption | omega) (by first | assumption | omega) (by first | assumption | omega) (by first | assumption | omega)) (cwV 2 F.2.2.2.2.1 gL_law_X6_row rfl rfl rfl (by decide +kernel) ⟨(Nat.le_of_ble_eq_true rfl), (Nat.le_of_ble_eq_true rfl)⟩) rfl rfl (q0 := 0) rfl (wf_split (n := 14) (C := [wC cA x (pg 0) (bt 0) (se 0) (qr 0) (hd 0) so, wP cA pg kd lo hi co pa rk nu ct sa ((nc : Nat) : Int) ((nr : Nat) : Int)]) (R := [wS cA se tbf (bSp X) (bSg X), wB cA bt (bBs X).1 (bBs X).2.1 (bBs X).2.2.1 (bBs X).2.2.2, wQ cA qr (tq 0) ql qc, wTS cA tq n1 S, wH cA hd pl pr pu qu, wMO cA md ((nc : Nat) : Int) ((nr : Nat) : Int) ke so bu bc pu qu fs cd un hb pf ef, wMP cA md kd lo hi co pa rk nu ct sa, wME cA md fr cs cn ck ch tb cr, wMX cA md fx fv sn, wMB cA md be tr wy, wMH cA md pl pr, poolE cA ad (bTb X) (fun _ => false) k]) [0, 2, 1, 3, 4, 5, 6, 7, 8, 9, 10, 11, 12, 13] rfl (by decide) rfl) rfl rfl (Nat.le_of_ble_eq_true rfl) ⟨by show kc + 0 ≤ 600000; omega, by show ks + 0 ≤ 7302250; omega⟩ hA dL_law_311 (fun v w hv => ?_)
      obtain ⟨hv, hw⟩ := hv
      rw [if_pos h1, if_pos h2] at hv
      rw [if_neg (fun z => absurd z.2 (by omega))] at hw
      subst hv
      subst hw
      refine g_perm (wfl [wC cA x (pg 0) (bt 0) (se 0) (qr 0) (hd 0) so, wS cA se tbf (bSp X) (bSg X), wP cA pg kd lo hi co pa rk nu ct sa ((nc : Nat) : Int) ((nr : Nat) : Int), wB cA bt (bBs X).1 (bBs X).2.1 (bBs X).2.2.1 (bBs X).2.2.2, wQ cA qr (tq 0) ql qc, wTS cA tq n1 S, wH cA hd pl pr pu qu, wMO cA md ((nc : Nat) : Int) ((nr : Nat) : Int) ke so bu bc pu qu fs cd un hb pf ef, wMP cA md kd lo hi co pa rk nu ct sa, wME cA md fr cs cn ck ch tb cr, wMX cA md fx fv sn, wMB cA md be tr wy, wMH cA md pl pr, poolE cA ad (bTb X) (fun _ => false) k]) (wf_split (n := 14) (C := [wS cA se tbf (bSp X) (bSg X), wB cA bt (bBs X).1 (bBs X).2.1 (bBs X).2.2.1 (bBs X).2.2.2, wQ cA qr (tq 0) ql qc, wTS cA tq n1 S, wH cA hd pl pr pu qu, wMO cA md ((nc : Nat) : Int) ((nr : Nat) : Int) ke so bu bc pu qu fs cd un hb pf ef, wMP cA md kd lo hi co pa rk nu ct sa, wME cA md fr cs cn ck ch tb cr, wMX cA md fx fv sn, wMB cA md be tr wy, wMH cA md pl pr, poolE cA ad (bTb X) (fun _ => false) k]) (R := [wC cA x (pg 0) (bt 0) (se 0) (qr 0) (hd 0) so, wP cA pg kd lo hi co pa rk nu ct sa ((nc : Nat) : Int) ((nr : Nat) : Int)]) [1, 3, 4, 5, 6, 7, 8, 9, 10, 11, 12, 13, 0, 2] rfl (by decide) rfl).symm ?_
      refine g_eq (st' := [iv (-2000000003)]) rfl rfl rfl ?_
      refine g_aload_n F 2 rfl rfl dL_law_314 ?_
      refine g_aload_n F 0 rfl rfl dL_law_315 ?_
      refine g_iload_n F 3 rfl rfl dL_law_316 ?_
      refine g_iconst F dL_law_317 ?_
      refine g_iadd F dL_law_318 ?_
      refine g_sld F hX hbl hbA (i + 1) (by omega) (by omega) (by omega) dL_law_319 ?_
      rw [← hz1e]
      refine g_aload_n F 0 rfl rfl dL_law_320 ?_
      refine g_iload_n F 3 rfl rfl dL_law_321 ?_
      refine g_iconst F dL_law_322 ?_
      refine g_iadd F dL_law_323 ?_
      refine g_sld F hX hbl hbA (i + 2) (by omega) (by omega) (by omega) dL_law_324 ?_
      rw [← hz2e]
      refine g_callVP F (As := [iv z1, iv z2]) (rest := [iv (-2000000003)]) (wr := wfl [wC cA x (pg 0) (bt 0) (se 0) (qr 0) (hd 0) so, wS cA se tbf (bSp X) (bSg X), wP cA pg kd lo hi co pa rk nu ct sa ((nc : Nat) : Int) ((nr : Nat) : Int), wB cA bt (bBs X).1 (bBs X).2.1 (bBs X).2.2.1 (bBs X).2.2.2, wQ cA qr (tq 0) ql qc, wTS cA tq n1 S, wH cA hd pl pr pu qu, wME cA md fr cs cn ck ch tb cr, wMX cA md fx fv sn, wMB cA md be tr wy, wMH cA md pl pr, poolE cA ad (bTb X) (fun _ => false) k]) (kX7_row l D cA md nc nr ke so bu bc pu qu fs cd un hb pf ef kd lo hi co pa rk nu ct sa z1 z2 (by first | assumption | omega) (by first | assumption | omega) (by first | assumption | omega) (by first | assumption | omega) (by first | assumption | omega) (by first | assumption | omega)) (cwV 2 F.2.2.2.2.1 gL_law_X7_row rfl rfl rfl (by decide +kernel) ⟨(Nat.le_of_ble_eq_true rfl), (Nat.le_of_ble_eq_true rfl)⟩) rfl rfl (q0 := 0) rfl (wf_split (n := 14) (C := [wMO cA md ((nc : Nat) : Int) ((nr : Nat) : Int) ke so bu bc pu qu fs cd un hb pf ef, wMP cA md kd lo hi co pa rk nu ct sa]) (R := [wC cA x (pg 0) (bt 0) (se 0) (qr 0) (hd 0) so, wS cA se tbf (bSp X) (bSg X), wP cA pg kd lo hi co pa rk nu ct sa ((nc : Nat) : Int) ((nr : Nat) : Int), wB cA bt (bBs X).1 (bBs X).2.1 (bBs X).2.2.1 (bBs X).2.2.2, wQ cA qr (tq 0) ql qc, wTS cA tq n1 S, wH cA hd pl pr pu qu, wME cA md fr cs cn ck ch tb cr, wMX cA md fx fv sn, wMB cA md be tr wy, wMH cA md pl pr, poolE cA ad (bTb X) (fun _ => false) k]) [7, 8, 0, 1, 2, 3, 4, 5, 6, 9, 10, 11, 12, 13] rfl (by decide) rfl) rfl rfl (Nat.le_of_ble_eq_true rfl) ⟨by show kc + 0 ≤ 600000; omega, by show ks + 0 ≤ 7302250; omega⟩ hA dL_law_325 (fun v w hv => ?_)
      obtain ⟨hv, hw⟩ := hv
      rw [if_pos h1, if_pos h2] at hv
      rw [if_neg (fun z => absurd z.2 (by omega))] at hw
      subst hv
      subst hw
      refine g_perm (wfl [wC cA x (pg 0) (bt 0) (se 0) (qr 0) (hd 0) so, wS cA se tbf (bSp X) (bSg X), wP cA pg kd lo hi co pa rk nu ct sa ((nc : Nat) : Int) ((nr : Nat) : Int), wB cA bt (bBs X).1 (bBs X).2.1 (bBs X).2.2.1 (bBs X).2.2.2, wQ cA qr (tq 0) ql qc, wTS cA tq n1 S, wH cA hd pl pr pu qu, wMO cA md ((nc : Nat) : Int) ((nr : Nat) : Int) ke so bu bc pu qu fs cd un hb pf ef, wMP cA md kd lo hi co pa rk nu ct sa, wME cA md fr cs cn ck ch tb cr, wMX cA md fx fv sn, wMB cA md be tr wy, wMH cA md pl pr, poolE cA ad (bTb X) (fun _ => false) k]) (wf_split (n := 14) (C := [wC cA x (pg 0) (bt 0) (se 0) (qr 0) (hd 0) so, wS cA se tbf (bSp X) (bSg X), wP cA pg kd lo hi co pa rk nu ct sa ((nc : Nat) : Int) ((nr : Nat) : Int), wB cA bt (bBs X).1 (bBs X).2.1 (bBs X).2.2.1 (bBs X).2.2.2, wQ cA qr (tq 0) ql qc, wTS cA tq n1 S, wH cA hd pl pr pu qu, wME cA md fr cs cn ck ch tb cr, wMX cA md fx fv sn, wMB cA md be tr wy, wMH cA md pl pr, poolE cA ad (bTb X) (fun _ => false) k]) (R := [wMO cA md ((nc : Nat) : Int) ((nr : Nat) : Int) ke so bu bc pu qu fs cd un hb pf ef, wMP cA md kd lo hi co pa rk nu ct sa]) [0, 1, 2, 3, 4, 5, 6, 9, 10, 11, 12, 13, 7, 8] rfl (by decide) rfl).symm ?_
      refine g_eq (st' := [iv (-2000000003), iv (-2000000003)]) rfl rfl rfl ?_
      refine g_ieq F (tgt := 887) (rfl) dL_law_328 (by decide) ?_
      refine g_widen (kc + 364) (ks + 8112) (by omega) (by omega) ?_
      exact hk kd lo hi co pa rk nu ct sa nc nr so X k ad tbf ql qc n1 S pl pr pu qu ke bu bc fs cd un hb pf ef fr cs cn ck ch tb cr fx fv sn be tr wy (hI)
    · skip
      refine g_aload_n F 1 rfl rfl dL_law_300 ?_
      refine g_aload_n F 0 rfl rfl dL_law_301 ?_
      refine g_iload_n F 3 rfl rfl dL_law_302 ?_
      refine g_iconst F dL_law_303 ?_
      refine g_iadd F dL_law_304 ?_
      refine g_sld F hX hbl hbA (i + 1) (by omega) (by omega) (by omega) dL_law_305 ?_
      rw [← hz1e]
      refine g_aload_n F 0 rfl rfl dL_law_306 ?_
      refine g_iload_n F 3 rfl rfl dL_law_307 ?_
      refine g_iconst F dL_law_308 ?_
      refine g_iadd F dL_law_309 ?_
      refine g_sld F hX hbl hbA (i + 2) (by omega) (by omega) (by omega) dL_law_310 ?_
      rw [← hz2e]
      refine g_callVP F (As := [iv z1, iv z2]) (rest := []) (wr := wfl [wS cA se tbf (bSp X) (bSg X), wB cA bt (bBs X).1 (bBs X).2.1 (bBs X).2.2.1 (bBs X).2.2.2, wQ cA qr (tq 0) ql qc, wTS cA tq n1 S, wH cA hd pl pr pu qu, wMO cA md ((nc : Nat) : Int) ((nr : Nat) : Int) ke so bu bc pu qu fs cd un hb pf ef, wMP cA md kd lo hi co pa rk nu ct sa, wME cA md fr cs cn ck ch tb cr, wMX cA md fx fv sn, wMB cA md be tr wy, wMH cA md pl pr, poolE cA ad (bTb X) (fun _ => false) k]) (kX6_row l D cA x (bt 0) (se 0) (qr 0) (hd 0) so pg kd lo hi co pa rk nu ct sa nc nr z1 z2 (by first | assumption | omega) (by first | assumption | omega) (by first | assumption | omega) (by first | assumption | omega) (by first | assumption | omega)) (cwV 2 F.2.2.2.2.1 gL_law_X6_row rfl rfl rfl (by decide +kernel) ⟨(Nat.le_of_ble_eq_true rfl), (Nat.le_of_ble_eq_true rfl)⟩) rfl rfl (q0 := 0) rfl (wf_split (n := 14) (C := [wC cA x (pg 0) (bt 0) (se 0) (qr 0) (hd 0) so, wP cA pg kd lo hi co pa rk nu ct sa ((nc : Nat) : Int) ((nr : Nat) : Int)]) (R := [wS cA se tbf (bSp X) (bSg X), wB cA bt (bBs X).1 (bBs X).2.1 (bBs X).2.2.1 (bBs X).2.2.2, wQ cA qr (tq 0) ql qc, wTS cA tq n1 S, wH cA hd pl pr pu qu, wMO cA md ((nc : Nat) : Int) ((nr : Nat) : Int) ke so bu bc pu qu fs cd un hb pf ef, wMP cA md kd lo hi co pa rk nu ct sa, wME cA md fr cs cn ck ch tb cr, wMX cA md fx fv sn, wMB cA md be tr wy, wMH cA md pl pr, poolE cA ad (bTb X) (fun _ => false) k]) [0, 2, 1, 3, 4, 5, 6, 7, 8, 9, 10, 11, 12, 13] rfl (by decide) rfl) rfl rfl (Nat.le_of_ble_eq_true rfl) ⟨by show kc + 0 ≤ 600000; omega, by show ks + 0 ≤ 7302250; omega⟩ hA dL_law_311 (fun v w hv => ?_)
      obtain ⟨hv, hw⟩ := hv
      rw [if_pos h1, if_neg h2] at hv
      rw [if_pos (⟨h1, by omega⟩ : ((0 ≤ z1 ∧ z1 ≤ 2) ∧ -99 ≤ z2 ∧ z2 ≤ 99) ∧ nr < 7)] at hw
      subst hv
      subst hw
      refine g_perm (wfl [wC cA x (pg 0) (bt 0) (se 0) (qr 0) (hd 0) so, wS cA se tbf (bSp X) (bSg X), wP cA pg kd lo hi co pa (va_up rk nr z1) (va_up nu nr z2) (va_up ct nr 1) sa ((nc : Nat) : Int) ((nr + 1 : Nat) : Int), wB cA bt (bBs X).1 (bBs X).2.1 (bBs X).2.2.1 (bBs X).2.2.2, wQ cA qr (tq 0) ql qc, wTS cA tq n1 S, wH cA hd pl pr pu qu, wMO cA md ((nc : Nat) : Int) ((nr : Nat) : Int) ke so bu bc pu qu fs cd un hb pf ef, wMP cA md kd lo hi co pa rk nu ct sa, wME cA md fr cs cn ck ch tb cr, wMX cA md fx fv sn, wMB cA md be tr wy, wMH cA md pl pr, poolE cA ad (bTb X) (fun _ => false) k]) (wf_split (n := 14) (C := [wS cA se tbf (bSp X) (bSg X), wB cA bt (bBs X).1 (bBs X).2.1 (bBs X).2.2.1 (bBs X).2.2.2, wQ cA qr (tq 0) ql qc, wTS cA tq n1 S, wH cA hd pl pr pu qu, wMO cA md ((nc : Nat) : Int) ((nr : Nat) : Int) ke so bu bc pu qu fs cd un hb pf ef, wMP cA md kd lo hi co pa rk nu ct sa, wME cA md fr cs cn ck ch tb cr, wMX cA md fx fv sn, wMB cA md be tr wy, wMH cA md pl pr, poolE cA ad (bTb X) (fun _ => false) k]) (R := [wC cA x (pg 0) (bt 0) (se 0) (qr 0) (hd 0) so, wP cA pg kd lo hi co pa (va_up rk nr z1) (va_up nu nr z2) (va_up ct nr 1) sa ((nc : Nat) : Int) ((nr + 1 : Nat) : Int)]) [1, 3, 4, 5, 6, 7, 8, 9, 10, 11, 12, 13, 0, 2] rfl (by decide) rfl).symm ?_
      refine g_eq (st' := [iv ((nr : Int))]) rfl rfl rfl ?_
      refine g_aload_n F 2 rfl rfl dL_law_314 ?_
      refine g_aload_n F 0 rfl rfl dL_law_315 ?_
      refine g_iload_n F 3 rfl rfl dL_law_316 ?_
      refine g_iconst F dL_law_317 ?_
      refine g_iadd F dL_law_318 ?_
      refine g_sld F hX hbl hbA (i + 1) (by omega) (by omega) (by omega) dL_law_319 ?_
      rw [← hz1e]
      refine g_aload_n F 0 rfl rfl dL_law_320 ?_
      refine g_iload_n F 3 rfl rfl dL_law_321 ?_
      refine g_iconst F dL_law_322 ?_
      refine g_iadd F dL_law_323 ?_
      refine g_sld F hX hbl hbA (i + 2) (by omega) (by omega) (by omega) dL_law_324 ?_
      rw [← hz2e]
      refine g_callVP F (As := [iv z1, iv z2]) (rest := [iv ((nr : Int))]) (wr := wfl [wC cA x (pg 0) (bt 0) (se 0) (qr 0) (hd 0) so, wS cA se tbf (bSp X) (bSg X), wP cA pg kd lo hi co pa (va_up rk nr z1) (va_up nu nr z2) (va_up ct nr 1) sa ((nc : Nat) : Int) ((nr + 1 : Nat) : Int), wB cA bt (bBs X).1 (bBs X).2.1 (bBs X).2.2.1 (bBs X).2.2.2, wQ cA qr (tq 0) ql qc, wTS cA tq n1 S, wH cA hd pl pr pu qu, wME cA md fr cs cn ck ch tb cr, wMX cA md fx fv sn, wMB cA md be tr wy, wMH cA md pl pr, poolE cA ad (bTb X) (fun _ => false) k]) (kX7_row l D cA md nc nr ke so bu bc pu qu fs cd un hb pf ef kd lo hi co pa rk nu ct sa z1 z2 (by first | assumption | omega) (by first | assumption | omega) (by first | assumption | omega) (by first | assumption | omega) (by first | assumption | omega) (by first | assumption | omega)) (cwV 2 F.2.2.2.2.1 gL_law_X7_row rfl rfl rfl (by decide +kernel) ⟨(Nat.le_of_ble_eq_true rfl), (Nat.le_of_ble_eq_true rfl)⟩) rfl rfl (q0 := 0) rfl (wf_split (n := 14) (C := [wMO cA md ((nc : Nat) : Int) ((nr : Nat) : Int) ke so bu bc pu qu fs cd un hb pf ef, wMP cA md kd lo hi co pa rk nu ct sa]) (R := [wC cA x (pg 0) (bt 0) (se 0) (qr 0) (hd 0) so, wS cA se tbf (bSp X) (bSg X), wP cA pg kd lo hi co pa (va_up rk nr z1) (va_up nu nr z2) (va_up ct nr 1) sa ((nc : Nat) : Int) ((nr + 1 : Nat) : Int), wB cA bt (bBs X).1 (bBs X).2.1 (bBs X).2.2.1 (bBs X).2.2.2, wQ cA qr (tq 0) ql qc, wTS cA tq n1 S, wH cA hd pl pr pu qu, wME cA md fr cs cn ck ch tb cr, wMX cA md fx fv sn, wMB cA md be tr wy, wMH cA md pl pr, poolE cA ad (bTb X) (fun _ => false) k]) [7, 8, 0, 1, 2, 3, 4, 5, 6, 9, 10, 11, 12, 13] rfl (by decide) rfl) rfl rfl (Nat.le_of_ble_eq_true rfl) ⟨by show kc + 0 ≤ 600000; omega, by show ks + 0 ≤ 7302250; omega⟩ hA dL_law_325 (fun v w hv => ?_)
      obtain ⟨hv, hw⟩ := hv
      rw [if_pos h1, if_neg h2] at hv
      rw [if_pos (⟨h1, by omega⟩ : ((0 ≤ z1 ∧ z1 ≤ 2) ∧ -99 ≤ z2 ∧ z2 ≤ 99) ∧ nr < 7)] at hw
      subst hv
      subst hw
      refine g_perm (wfl [wC cA x (pg 0) (bt 0) (se 0) (qr 0) (hd 0) so, wS cA se tbf (bSp X) (bSg X), wP cA pg kd lo hi co pa (va_up rk nr z1) (va_up nu nr z2) (va_up ct nr 1) sa ((nc : Nat) : Int) ((nr + 1 : Nat) : Int), wB cA bt (bBs X).1 (bBs X).2.1 (bBs X).2.2.1 (bBs X).2.2.2, wQ cA qr (tq 0) ql qc, wTS cA tq n1 S, wH cA hd pl pr pu qu, wMO cA md ((nc : Nat) : Int) ((nr + 1 : Nat) : Int) ke so bu bc pu qu fs cd un hb pf ef, wMP cA md kd lo hi co pa (va_up rk nr z1) (va_up nu nr z2) (va_up ct nr 1) sa, wME cA md fr cs cn ck ch tb cr, wMX cA md fx fv sn, wMB cA md be tr wy, wMH cA md pl pr, poolE cA ad (bTb X) (fun _ => false) k]) (wf_split (n := 14) (C := [wC cA x (pg 0) (bt 0) (se 0) (qr 0) (hd 0) so, wS cA se tbf (bSp X) (bSg X), wP cA pg kd lo hi co pa (va_up rk nr z1) (va_up nu nr z2) (va_up ct nr 1) sa ((nc : Nat) : Int) ((nr + 1 : Nat) : Int), wB cA bt (bBs X).1 (bBs X).2.1 (bBs X).2.2.1 (bBs X).2.2.2, wQ cA qr (tq 0) ql qc, wTS cA tq n1 S, wH cA hd pl pr pu qu, wME cA md fr cs cn ck ch tb cr, wMX cA md fx fv sn, wMB cA md be tr wy, wMH cA md pl pr, poolE cA ad (bTb X) (fun _ => false) k]) (R := [wMO cA md ((nc : Nat) : Int) ((nr + 1 : Nat) : Int) ke so bu bc pu qu fs cd un hb pf ef, wMP cA md kd lo hi co pa (va_up rk nr z1) (va_up nu nr z2) (va_up ct nr 1) sa]) [0, 1, 2, 3, 4, 5, 6, 9, 10, 11, 12, 13, 7, 8] rfl (by decide) rfl).symm ?_
      refine g_eq (st' := [iv ((nr : Int)), iv ((nr : Int))]) rfl rfl rfl ?_
      refine g_ieq F (tgt := 887) (rfl) dL_law_328 (by decide) ?_
      refine g_widen (kc + 364) (ks + 8112) (by omega) (by omega) ?_
      exact hk kd lo hi co pa (va_up rk nr z1) (va_up nu nr z2) (va_up ct nr 1) sa nc (nr + 1) so X k ad tbf ql qc n1 S pl pr pu qu ke bu bc fs cd un hb pf ef fr cs cn ck ch tb cr fx fv sn be tr wy (⟨pr_row hpr0 (by omega) h1.1 h1.2, hI.2⟩)
  · skip
    refine g_aload_n F 1 rfl rfl dL_law_300 ?_
    refine g_aload_n F 0 rfl rfl dL_law_301 ?_
    refine g_iload_n F 3 rfl rfl dL_law_302 ?_
    refine g_iconst F dL_law_303 ?_
    refine g_iadd F dL_law_304 ?_
    refine g_sld F hX hbl hbA (i + 1) (by omega) (by omega) (by omega) dL_law_305 ?_
    rw [← hz1e]
    refine g_aload_n F 0 rfl rfl dL_law_306 ?_
    refine g_iload_n F 3 rfl rfl dL_law_307 ?_
    refine g_iconst F dL_law_308 ?_
    refine g_iadd F dL_law_309 ?_
    refine g_sld F hX hbl hbA (i + 2) (by omega) (by omega) (by omega) dL_law_310 ?_
    rw [← hz2e]
    refine g_callVP F (As := [iv z1, iv z2]) (rest := []) (wr := wfl [wS cA se tbf (bSp X) (bSg X), wB cA bt (bBs X).1 (bBs X).2.1 (bBs X).2.2.1 (bBs X).2.2.2, wQ cA qr (tq 0) ql qc, wTS cA tq n1 S, wH cA hd pl pr pu qu, wMO cA md ((nc : Nat) : Int) ((nr : Nat) : Int) ke so bu bc pu qu fs cd un hb pf ef, wMP cA md kd lo hi co pa rk nu ct sa, wME cA md fr cs cn ck ch tb cr, wMX cA md fx fv sn, wMB cA md be tr wy, wMH cA md pl pr, poolE cA ad (bTb X) (fun _ => false) k]) (kX6_row l D cA x (bt 0) (se 0) (qr 0) (hd 0) so pg kd lo hi co pa rk nu ct sa nc nr z1 z2 (by first | assumption | omega) (by first | assumption | omega) (by first | assumption | omega) (by first | assumption | omega) (by first | assumption | omega)) (cwV 2 F.2.2.2.2.1 gL_law_X6_row rfl rfl rfl (by decide +kernel) ⟨(Nat.le_of_ble_eq_true rfl), (Nat.le_of_ble_eq_true rfl)⟩) rfl rfl (q0 := 0) rfl (wf_split (n := 14) (C := [wC cA x (pg 0) (bt 0) (se 0) (qr 0) (hd 0) so, wP cA pg kd lo hi co pa rk nu ct sa ((nc : Nat) : Int) ((nr : Nat) : Int)]) (R := [wS cA se tbf (bSp X) (bSg X), wB cA bt (bBs X).1 (bBs X).2.1 (bBs X).2.2.1 (bBs X).2.2.2, wQ cA qr (tq 0) ql qc, wTS cA tq n1 S, wH cA hd pl pr pu qu, wMO cA md ((nc : Nat) : Int) ((nr : Nat) : Int) ke so bu bc pu qu fs cd un hb pf ef, wMP cA md kd lo hi co pa rk nu ct sa, wME cA md fr cs cn ck ch tb cr, wMX cA md fx fv sn, wMB cA md be tr wy, wMH cA md pl pr, poolE cA ad (bTb X) (fun _ => false) k]) [0, 2, 1, 3, 4, 5, 6, 7, 8, 9, 10, 11, 12, 13] rfl (by decide) rfl) rfl rfl (Nat.le_of_ble_eq_true rfl) ⟨by show kc + 0 ≤ 600000; omega, by show ks + 0 ≤ 7302250; omega⟩ hA dL_law_311 (fun v w hv => ?_)
    obtain ⟨hv, hw⟩ := hv
    rw [if_neg h1] at hv
    rw [if_neg (fun z => h1 z.1)] at hw
    subst hv
    subst hw
    refine g_perm (wfl [wC cA x (pg 0) (bt 0) (se 0) (qr 0) (hd 0) so, wS cA se tbf (bSp X) (bSg X), wP cA pg kd lo hi co pa rk nu ct sa ((nc : Nat) : Int) ((nr : Nat) : Int), wB cA bt (bBs X).1 (bBs X).2.1 (bBs X).2.2.1 (bBs X).2.2.2, wQ cA qr (tq 0) ql qc, wTS cA tq n1 S, wH cA hd pl pr pu qu, wMO cA md ((nc : Nat) : Int) ((nr : Nat) : Int) ke so bu bc pu qu fs cd un hb pf ef, wMP cA md kd lo hi co pa rk nu ct sa, wME cA md fr cs cn ck ch tb cr, wMX cA md fx fv sn, wMB cA md be tr wy, wMH cA md pl pr, poolE cA ad (bTb X) (fun _ => false) k]) (wf_split (n := 14) (C := [wS cA se tbf (bSp X) (bSg X), wB cA bt (bBs X).1 (bBs X).2.1 (bBs X).2.2.1 (bBs X).2.2.2, wQ cA qr (tq 0) ql qc, wTS cA tq n1 S, wH cA hd pl pr pu qu, wMO cA md ((nc : Nat) : Int) ((nr : Nat) : Int) ke so bu bc pu qu fs cd un hb pf ef, wMP cA md kd lo hi co pa rk nu ct sa, wME cA md fr cs cn ck ch tb cr, wMX cA md fx fv sn, wMB cA md be tr wy, wMH cA md pl pr, poolE cA ad (bTb X) (fun _ => false) k]) (R := [wC cA x (pg 0) (bt 0) (se 0) (qr 0) (hd 0) so, wP cA pg kd lo hi co pa rk nu ct sa ((nc : Nat) : Int) ((nr : Nat) : Int)]) [1, 3, 4, 5, 6, 7, 8, 9, 10, 11, 12, 13, 0, 2] rfl (by decide) rfl).symm ?_
    refine g_eq (st' := [iv (-2000000001)]) rfl rfl rfl ?_
    refine g_aload_n F 2 rfl rfl dL_law_314 ?_
    refine g_aload_n F 0 rfl rfl dL_law_315 ?_
    refine g_iload_n F 3 rfl rfl dL_law_316 ?_
    refine g_iconst F dL_law_317 ?_
    refine g_iadd F dL_law_318 ?_
    refine g_sld F hX hbl hbA (i + 1) (by omega) (by omega) (by omega) dL_law_319 ?_
    rw [← hz1e]
    refine g_aload_n F 0 rfl rfl dL_law_320 ?_
    refine g_iload_n F 3 rfl rfl dL_law_321 ?_
    refine g_iconst F dL_law_322 ?_
    refine g_iadd F dL_law_323 ?_
    refine g_sld F hX hbl hbA (i + 2) (by omega) (by omega) (by omega) dL_law_324 ?_
    rw [← hz2e]
    refine g_callVP F (As := [iv z1, iv z2]) (rest := [iv (-2000000001)]) (wr := wfl [wC cA x (pg 0) (bt 0) (se 0) (qr 0) (hd 0) so, wS cA se tbf (bSp X) (bSg X), wP cA pg kd lo hi co pa rk nu ct sa ((nc : Nat) : Int) ((nr : Nat) : Int), wB cA bt (bBs X).1 (bBs X).2.1 (bBs X).2.2.1 (bBs X).2.2.2, wQ cA qr (tq 0) ql qc, wTS cA tq n1 S, wH cA hd pl pr pu qu, wME cA md fr cs cn ck ch tb cr, wMX cA md fx fv sn, wMB cA md be tr wy, wMH cA md pl pr, poolE cA ad (bTb X) (fun _ => false) k]) (kX7_row l D cA md nc nr ke so bu bc pu qu fs cd un hb pf ef kd lo hi co pa rk nu ct sa z1 z2 (by first | assumption | omega) (by first | assumption | omega) (by first | assumption | omega) (by first | assumption | omega) (by first | assumption | omega) (by first | assumption | omega)) (cwV 2 F.2.2.2.2.1 gL_law_X7_row rfl rfl rfl (by decide +kernel) ⟨(Nat.le_of_ble_eq_true rfl), (Nat.le_of_ble_eq_true rfl)⟩) rfl rfl (q0 := 0) rfl (wf_split (n := 14) (C := [wMO cA md ((nc : Nat) : Int) ((nr : Nat) : Int) ke so bu bc pu qu fs cd un hb pf ef, wMP cA md kd lo hi co pa rk nu ct sa]) (R := [wC cA x (pg 0) (bt 0) (se 0) (qr 0) (hd 0) so, wS cA se tbf (bSp X) (bSg X), wP cA pg kd lo hi co pa rk nu ct sa ((nc : Nat) : Int) ((nr : Nat) : Int), wB cA bt (bBs X).1 (bBs X).2.1 (bBs X).2.2.1 (bBs X).2.2.2, wQ cA qr (tq 0) ql qc, wTS cA tq n1 S, wH cA hd pl pr pu qu, wME cA md fr cs cn ck ch tb cr, wMX cA md fx fv sn, wMB cA md be tr wy, wMH cA md pl pr, poolE cA ad (bTb X) (fun _ => false) k]) [7, 8, 0, 1, 2, 3, 4, 5, 6, 9, 10, 11, 12, 13] rfl (by decide) rfl) rfl rfl (Nat.le_of_ble_eq_true rfl) ⟨by show kc + 0 ≤ 600000; omega, by show ks + 0 ≤ 7302250; omega⟩ hA dL_law_325 (fun v w hv => ?_)
    obtain ⟨hv, hw⟩ := hv
    rw [if_neg h1] at hv
    rw [if_neg (fun z => h1 z.1)] at hw
    subst hv
    subst hw
    refine g_perm (wfl [wC cA x (pg 0) (bt 0) (se 0) (qr 0) (hd 0) so, wS cA se tbf (bSp X) (bSg X), wP cA pg kd lo hi co pa rk nu ct sa ((nc : Nat) : Int) ((nr : Nat) : Int), wB cA bt (bBs X).1 (bBs X).2.1 (bBs X).2.2.1 (bBs X).2.2.2, wQ cA qr (tq 0) ql qc, wTS cA tq n1 S, wH cA hd pl pr pu qu, wMO cA md ((nc : Nat) : Int) ((nr : Nat) : Int) ke so bu bc pu qu fs cd un hb pf ef, wMP cA md kd lo hi co pa rk nu ct sa, wME cA md fr cs cn ck ch tb cr, wMX cA md fx fv sn, wMB cA md be tr wy, wMH cA md pl pr, poolE cA ad (bTb X) (fun _ => false) k]) (wf_split (n := 14) (C := [wC cA x (pg 0) (bt 0) (se 0) (qr 0) (hd 0) so, wS cA se tbf (bSp X) (bSg X), wP cA pg kd lo hi co pa rk nu ct sa ((nc : Nat) : Int) ((nr : Nat) : Int), wB cA bt (bBs X).1 (bBs X).2.1 (bBs X).2.2.1 (bBs X).2.2.2, wQ cA qr (tq 0) ql qc, wTS cA tq n1 S, wH cA hd pl pr pu qu, wME cA md fr cs cn ck ch tb cr, wMX cA md fx fv sn, wMB cA md be tr wy, wMH cA md pl pr, poolE cA ad (bTb X) (fun _ => false) k]) (R := [wMO cA md ((nc : Nat) : Int) ((nr : Nat) : Int) ke so bu bc pu qu fs cd un hb pf ef, wMP cA md kd lo hi co pa rk nu ct sa]) [0, 1, 2, 3, 4, 5, 6, 9, 10, 11, 12, 13, 7, 8] rfl (by decide) rfl).symm ?_
    refine g_eq (st' := [iv (-2000000001), iv (-2000000001)]) rfl rfl rfl ?_
    refine g_ieq F (tgt := 887) (rfl) dL_law_328 (by decide) ?_
    refine g_widen (kc + 364) (ks + 8112) (by omega) (by omega) ?_
    exact hk kd lo hi co pa rk nu ct sa nc nr so X k ad tbf ql qc n1 S pl pr pu qu ke bu bc fs cd un hb pf ef fr cs cn ck ch tb cr fx fv sn be tr wy (hI)
