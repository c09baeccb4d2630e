abbrev TS : Type := (Nat → Int) × (Nat → Int) × (Nat → Int) × (Nat → Int) × (Nat → Int) × (Nat → Int) × Nat × Int × Int
abbrev wTS (cA : Nat → ClassId) (a : Nat → Nat) (nc : Nat) (S : TS) : va_W := wT cA a S.1 S.2.1 S.2.2.1 S.2.2.2.1 S.2.2.2.2.1 S.2.2.2.2.2.1 (nc : Int) ((S.2.2.2.2.2.2.1 : Nat) : Int) S.2.2.2.2.2.2.2.1 S.2.2.2.2.2.2.2.2
/-- one more line of zeros -/
def addLineT (tie : Int) (S : TS) : TS := (fillZ S.1 (S.2.2.2.2.2.2.1 * 6) 6 0, va_up S.2.1 S.2.2.2.2.2.2.1 tie, S.2.2.1, S.2.2.2.1, S.2.2.2.2.1, S.2.2.2.2.2.1, S.2.2.2.2.2.2.1 + 1, S.2.2.2.2.2.2.2.1, S.2.2.2.2.2.2.2.2)
def raiseT (c : Nat) (low : Int) (S : TS) : TS := (va_up S.1 ((1 + c) * 6 + 5) (S.1 ((1 + c) * 6 + 5) - (low - S.2.2.1 c) * S.2.2.2.2.2.2.2.1), S.2.1, va_up S.2.2.1 c low, S.2.2.2.1, S.2.2.2.2.1, S.2.2.2.2.2.1, S.2.2.2.2.2.2.1, S.2.2.2.2.2.2.2.1, S.2.2.2.2.2.2.2.2)
def lowerT (c : Nat) (high : Int) (S : TS) : TS := (va_up S.1 ((S.2.2.2.2.1 c).toNat * 6 + 5) (S.1 ((S.2.2.2.2.1 c).toNat * 6 + 5) - (S.2.2.2.1 c - high) * S.2.2.2.2.2.2.2.1), S.2.1, S.2.2.1, va_up S.2.2.2.1 c high, S.2.2.2.2.1, S.2.2.2.2.2.1, S.2.2.2.2.2.2.1, S.2.2.2.2.2.2.2.1, S.2.2.2.2.2.2.2.2)
def tieT (i : Nat) (tie : Int) (S : TS) : TS := (S.1, va_up S.2.1 i tie, S.2.2)
def holdT (c : Nat) (S : TS) : TS := if 0 < S.2.2.1 c then S else tieT (1 + c) 2 (raiseT c 0 S)
def wayZ (p high : Int) : Int := if p < 0 ∧ high ≠ -2000000005 then -1 else 1
def startZ (p low high : Int) : Int := if p < 0 ∧ high ≠ -2000000005 then high else low
/-- a column's own cells -/
def bcC (ce : Nat → Int) (c : Nat) (p low start way : Int) : Nat → Int := va_up (va_up (va_up (va_up ce c (p * way)) 5 ((va_up ce c (p * way)) 5 + p * start)) ((1 + c) * 6 + c) way) ((1 + c) * 6 + 5) (start - low)
def bcT (c : Nat) (p low high : Int) (S : TS) : TS :=
  if high = -2000000005 then (bcC S.1 c p low (startZ p low high) (wayZ p high), S.2.1, va_up S.2.2.1 c low, va_up S.2.2.2.1 c high, va_up S.2.2.2.2.1 c (-1), va_up S.2.2.2.2.2.1 c 0, S.2.2.2.2.2.2)
  else (va_up (va_up (fillZ (bcC S.1 c p low (startZ p low high) (wayZ p high)) (S.2.2.2.2.2.2.1 * 6) 6 0) (S.2.2.2.2.2.2.1 * 6 + c) (-(wayZ p high))) (S.2.2.2.2.2.2.1 * 6 + 5) (high - startZ p low high),
    va_up S.2.1 S.2.2.2.2.2.2.1 1, va_up S.2.2.1 c low, va_up S.2.2.2.1 c high, va_up (va_up S.2.2.2.2.1 c (-1)) c (S.2.2.2.2.2.2.1 : Int), va_up S.2.2.2.2.2.1 c 0, S.2.2.2.2.2.2.1 + 1, S.2.2.2.2.2.2.2)
set_option maxHeartbeats 4000000 in
set_option maxRecDepth 100000 in
theorem kX5_addLine (l : Launch) (D : va_G) (cA : Nat → ClassId) (t : Nat → Nat) (t_ce : Nat → Int) (t_ti : Nat → Int) (t_lo : Nat → Int) (t_hi : Nat → Int) (t_gl : Nat → Int) (t_sh : Nat → Int) (t_nc : Nat) (t_nl : Nat) (t_bel : Int) (t_far : Int) (q : Int) (hnl : t_nl < 18) (hq : 0 ≤ q ∧ q ≤ 2) : CT l yX5_addLine wsX5_addLine ({ frames := 0, cells := 0, slots := 0, locals := 0 }) D cA [.ref (t 0), iv (q)] (wT cA t (t_ce) (t_ti) (t_lo) (t_hi) (t_gl) (t_sh) (((t_nc : Nat) : Int)) (((t_nl : Nat) : Int)) (t_bel) (t_far)) (fun ov ow => ov = some (iv ((t_nl * 6 : Nat) : Int)) ∧ ow = wTS cA t t_nc (addLineT q (t_ce, t_ti, t_lo, t_hi, t_gl, t_sh, t_nl, t_bel, t_far))) 0 0 := by
  refine CT.mk (cc := cX5_addLine) (maxL := 4) (ret := (some .int)) (by decide +kernel) rfl (Nat.le_of_ble_eq_true rfl) ?_
  intro p_ e_ s_ m_ b_ me_ c_ A F hnm hA
  have hV := @IM_P D s_ A
  have iX5 : ∀ w ∈ u_ws RX5 TX5 10, w ∈ wsX5_addLine := by decide +kernel
  refine g_lsub ([(0, .ref (t 0)), (1, iv (q))]) [0, 1] rfl ?_
  refine g_aload_n F 0 rfl rfl dX5_addLine_0 ?_
  refine g_get F hV iX5 0 rfl rfl 7 (by decide) (List.mem_of_getElem? (i := 1) rfl) rfl dX5_addLine_1 ?_
  refine g_bipush F dX5_addLine_4 (by decide) ?_
  refine g_imul F dX5_addLine_6 ?_
  refine g_istore_n F ([(2, iv ((((t_nl : Nat) : Int)) * 6)), (0, .ref (t 0)), (1, iv (q))]) rfl rfl (by decide) dX5_addLine_7 ?_
  refine g_aload_n F 1 rfl rfl dX5_addLine_8 ?_
  refine g_get F hV iX5 0 rfl rfl 7 (by decide) (List.mem_of_getElem? (i := 1) rfl) rfl dX5_addLine_9 ?_
  refine g_bipush F dX5_addLine_12 (by decide) ?_
  refine g_icmp_lt F (tgt := 19) dX5_addLine_14 (by decide) ⟨by omega, by omega⟩ ⟨by decide, by decide⟩ (fun c_1 => ?_) (fun c_1 => ?_)
  · skip
    refine g_iconst F dX5_addLine_19 ?_
    refine g_istore_n F ([(3, iv (0)), (2, iv ((((t_nl : Nat) : Int)) * 6)), (0, .ref (t 0)), (1, iv (q))]) rfl rfl (by decide) dX5_addLine_20 ?_
    have lp21 : ∀ (n : Nat) (k : Nat) (cx : Nat → Int) (hk : k ≤ 6) (hcx : cx = fillZ t_ce (t_nl * 6) k 0), 6 - k < n → GW p_ l e_ (headSpec wsX5_addLine ({ frames := 0, cells := 0, slots := 0, locals := 0 })).room s_ m_ ([.ref (t 0), iv (q)]).toArray b_ me_ c_ (MQ b_ (Qm D (fun ov ow => ov = some (iv ((t_nl * 6 : Nat) : Int)) ∧ ow = wTS cA t t_nc (addLineT q (t_ce, t_ti, t_lo, t_hi, t_gl, t_sh, t_nl, t_bel, t_far))) A) ([.ref (t 0), iv (q)]).toArray s_ 0 0 A) (IM D s_ A) 4 0 0 (wT cA t (cx) (t_ti) (t_lo) (t_hi) (t_gl) (t_sh) (((t_nc : Nat) : Int)) (((t_nl : Nat) : Int)) (t_bel) (t_far)) ([(0, .ref (t 0)), (1, iv (q)), (2, iv ((((t_nl : Nat) : Int)) * 6)), (3, iv (((k : Nat) : Int)))]) [] 21 := by
      intro n; induction n with
      | zero => intro k cx; intros; omega
      | succ n ih21 =>
        intro k cx hk hcx hmu21
        subst hcx
        refine g_iload_n F 3 rfl rfl dX5_addLine_21 ?_
        refine g_bipush F dX5_addLine_22 (by decide) ?_
        refine g_icmp_ge F (tgt := 42) dX5_addLine_24 (by decide) ⟨by omega, by omega⟩ ⟨by decide, by decide⟩ (fun c_2 => ?_) (fun c_2 => ?_)
        · skip
          refine g_aload_n F 0 rfl rfl dX5_addLine_42 ?_
          refine g_get F hV iX5 0 rfl rfl 1 (by decide) (List.mem_of_getElem? (i := 3) rfl) rfl dX5_addLine_43 ?_
          refine g_aload_n F 0 rfl rfl dX5_addLine_46 ?_
          refine g_get F hV iX5 0 rfl rfl 7 (by decide) (List.mem_of_getElem? (i := 1) rfl) rfl dX5_addLine_47 ?_
          refine g_iload_n F 1 rfl rfl dX5_addLine_50 ?_
          refine g_iast F 2 rfl (t_nl) (by omega) (by omega) (by decide) (wT cA t (fillZ t_ce (t_nl * 6) k 0) (va_up t_ti t_nl q) (t_lo) (t_hi) (t_gl) (t_sh) (((t_nc : Nat) : Int)) (((t_nl : Nat) : Int)) (t_bel) (t_far)) rfl dX5_addLine_51 ?_
          refine g_aload_n F 0 rfl rfl dX5_addLine_52 ?_
          refine g_dup F rfl dX5_addLine_53 ?_
          refine g_get F hV iX5 0 rfl rfl 7 (by decide) (List.mem_of_getElem? (i := 1) rfl) rfl dX5_addLine_54 ?_
          refine g_iconst F dX5_addLine_57 ?_
          refine g_iadd F dX5_addLine_58 ?_
          refine g_put F iX5 tyX5 tyX5_ok nmX5 0 rfl rfl 7 (by decide) (List.mem_of_getElem? (i := 1) rfl) rfl rfl rfl (Nat.le_of_ble_eq_true rfl) (wT cA t (fillZ t_ce (t_nl * 6) k 0) (va_up t_ti t_nl q) (t_lo) (t_hi) (t_gl) (t_sh) (((t_nc : Nat) : Int)) ((((t_nl : Nat) : Int)) + 1) (t_bel) (t_far)) rfl dX5_addLine_59 ?_
          refine g_iload_n F 2 rfl rfl dX5_addLine_62 ?_
          exact g_zret F rfl rfl (by decide) (by decide) ⟨congrArg (fun z => some (iv z)) (show ((((t_nl : Nat) : Int)) * 6 : Int) = ((t_nl * 6 : Nat) : Int) by first | rfl | omega), (by have hk6 : k = 6 := (by omega); subst hk6; rfl)⟩ dX5_addLine_63
        · skip
          refine g_aload_n F 0 rfl rfl dX5_addLine_27 ?_
          refine g_get F hV iX5 0 rfl rfl 0 (by decide) (List.mem_of_getElem? (i := 2) rfl) rfl dX5_addLine_28 ?_
          refine g_iload_n F 2 rfl rfl dX5_addLine_31 ?_
          refine g_iload_n F 3 rfl rfl dX5_addLine_32 ?_
          refine g_iadd F dX5_addLine_33 ?_
          refine g_lconst F (z := 0) dX5_addLine_34 (by decide) ?_
          refine g_last F 1 rfl ((t_nl * 6) + k) (by omega) (by omega) (by decide) (wT cA t (va_up (fillZ t_ce (t_nl * 6) k 0) ((t_nl * 6) + k) 0) (t_ti) (t_lo) (t_hi) (t_gl) (t_sh) (((t_nc : Nat) : Int)) (((t_nl : Nat) : Int)) (t_bel) (t_far)) rfl dX5_addLine_35 ?_
          refine g_iinc F 3 rfl ([(3, iv ((((k : Nat) : Int)) + 1)), (0, .ref (t 0)), (1, iv (q)), (2, iv ((((t_nl : Nat) : Int)) * 6))]) rfl (by decide) dX5_addLine_36 ?_
          refine g_goto F (tgt := 21) dX5_addLine_39 (by decide) ?_
          refine g_lsub ([(0, .ref (t 0)), (1, iv (q)), (2, iv ((((t_nl : Nat) : Int)) * 6)), (3, iv ((((k : Nat) : Int)) + 1))]) [1, 2, 3, 0] rfl ?_
          exact ih21 (k + 1) (va_up (fillZ t_ce (t_nl * 6) k 0) ((t_nl * 6) + k) 0) (by omega) (fill_up _ _ _ _) (by omega)
    refine g_lsub ([(0, .ref (t 0)), (1, iv (q)), (2, iv ((((t_nl : Nat) : Int)) * 6)), (3, iv (0))]) [2, 3, 1, 0] rfl ?_
    exact lp21 (_ + 1) 0 t_ce (by omega) (fill_0 _ _ _).symm (Nat.lt_succ_self _)
  · skip
    exact absurd c_1 (by omega)

set_option maxHeartbeats 4000000 in
set_option maxRecDepth 100000 in
theorem kX5_raise (l : Launch) (D : va_G) (cA : Nat → ClassId) (t : Nat → Nat) (t_ce : Nat → Int) (t_ti : Nat → Int) (t_lo : Nat → Int) (t_hi : Nat → Int) (t_gl : Nat → Int) (t_sh : Nat → Int) (t_nc : Nat) (t_nl : Nat) (t_bel : Int) (t_far : Int) (c : Nat) (q : Int) (hc : c < 5) (hlo : ∀ j, -20 ≤ t_lo j ∧ t_lo j ≤ 20) (hq : -100 ≤ q ∧ q ≤ 100) : CT l yX5_raise wsX5_raise ({ frames := 0, cells := 0, slots := 0, locals := 0 }) D cA [.ref (t 0), iv (((c : Nat) : Int)), iv (q)] (wT cA t (t_ce) (t_ti) (t_lo) (t_hi) (t_gl) (t_sh) (((t_nc : Nat) : Int)) (((t_nl : Nat) : Int)) (t_bel) (t_far)) (fun ov ow => ov = none ∧ ow = wTS cA t t_nc (raiseT c q (t_ce, t_ti, t_lo, t_hi, t_gl, t_sh, t_nl, t_bel, t_far))) 0 0 := by
  refine CT.mk (cc := cX5_raise) (maxL := 3) (ret := none) (by decide +kernel) rfl (Nat.le_of_ble_eq_true rfl) ?_
  intro p_ e_ s_ m_ b_ me_ c_ A F hnm hA
  have hV := @IM_P D s_ A
  have iX5 : ∀ w ∈ u_ws RX5 TX5 10, w ∈ wsX5_raise := by decide +kernel
  refine g_lsub ([(0, .ref (t 0)), (1, iv (((c : Nat) : Int))), (2, iv (q))]) [0, 1, 2] rfl ?_
  refine g_aload_n F 0 rfl rfl dX5_raise_0 ?_
  refine g_get F hV iX5 0 rfl rfl 0 (by decide) (List.mem_of_getElem? (i := 1) rfl) rfl dX5_raise_1 ?_
  refine g_iconst F dX5_raise_4 ?_
  refine g_iload_n F 1 rfl rfl dX5_raise_5 ?_
  refine g_iadd F dX5_raise_6 ?_
  refine g_bipush F dX5_raise_7 (by decide) ?_
  refine g_imul F dX5_raise_9 ?_
  refine g_iconst F dX5_raise_10 ?_
  refine g_iadd F dX5_raise_11 ?_
  refine g_dup2 F rfl rfl dX5_raise_12 ?_
  refine g_lald F hV 1 rfl (((1 + c) * 6) + 5) (by omega) (by omega) (by decide) dX5_raise_13 ?_
  refine g_iload_n F 2 rfl rfl dX5_raise_14 ?_
  refine g_aload_n F 0 rfl rfl dX5_raise_15 ?_
  refine g_get F hV iX5 0 rfl rfl 2 (by decide) (List.mem_of_getElem? (i := 2) rfl) rfl dX5_raise_16 ?_
  refine g_iload_n F 1 rfl rfl dX5_raise_19 ?_
  have r_1 := hlo (c)
  refine g_iald F hV 3 rfl (c) (by omega) (by omega) (by decide) dX5_raise_20 ?_
  refine g_isub F dX5_raise_21 ?_
  refine g_i2l F ⟨by omega, by omega⟩ dX5_raise_22 ?_
  refine g_aload_n F 0 rfl rfl dX5_raise_23 ?_
  refine g_get F hV iX5 0 rfl rfl 8 (by decide) (List.mem_of_getElem? (i := 3) rfl) rfl dX5_raise_24 ?_
  refine g_lmul F dX5_raise_27 ?_
  refine g_lsub2 F dX5_raise_28 ?_
  refine g_last F 1 rfl (((1 + c) * 6) + 5) (by omega) (by omega) (by decide) (wT cA t (va_up t_ce (((1 + c) * 6) + 5) ((t_ce (((1 + c) * 6) + 5)) - ((q - (t_lo c)) * t_bel))) (t_ti) (t_lo) (t_hi) (t_gl) (t_sh) (((t_nc : Nat) : Int)) (((t_nl : Nat) : Int)) (t_bel) (t_far)) rfl dX5_raise_29 ?_
  refine g_aload_n F 0 rfl rfl dX5_raise_30 ?_
  refine g_get F hV iX5 0 rfl rfl 2 (by decide) (List.mem_of_getElem? (i := 2) rfl) rfl dX5_raise_31 ?_
  refine g_iload_n F 1 rfl rfl dX5_raise_34 ?_
  refine g_iload_n F 2 rfl rfl dX5_raise_35 ?_
  refine g_iast F 3 rfl (c) (by omega) (by omega) (by decide) (wT cA t (va_up t_ce (((1 + c) * 6) + 5) ((t_ce (((1 + c) * 6) + 5)) - ((q - (t_lo c)) * t_bel))) (t_ti) (va_up t_lo c q) (t_hi) (t_gl) (t_sh) (((t_nc : Nat) : Int)) (((t_nl : Nat) : Int)) (t_bel) (t_far)) rfl dX5_raise_36 ?_
  exact g_vret F rfl (by decide) (by decide) ⟨rfl, rfl⟩ dX5_raise_37

set_option maxHeartbeats 4000000 in
set_option maxRecDepth 100000 in
theorem kX5_lower (l : Launch) (D : va_G) (cA : Nat → ClassId) (t : Nat → Nat) (t_ce : Nat → Int) (t_ti : Nat → Int) (t_lo : Nat → Int) (t_hi : Nat → Int) (t_gl : Nat → Int) (t_sh : Nat → Int) (t_nc : Nat) (t_nl : Nat) (t_bel : Int) (t_far : Int) (c : Nat) (q : Int) (hc : c < 5) (hq : -100 ≤ q ∧ q ≤ 100) (hhi : -100 ≤ t_hi c ∧ t_hi c ≤ 100) (hg : 0 ≤ t_gl c ∧ t_gl c < t_nl) (hnl : t_nl ≤ 18) : CT l yX5_lower wsX5_lower ({ frames := 0, cells := 0, slots := 0, locals := 0 }) D cA [.ref (t 0), iv (((c : Nat) : Int)), iv (q)] (wT cA t (t_ce) (t_ti) (t_lo) (t_hi) (t_gl) (t_sh) (((t_nc : Nat) : Int)) (((t_nl : Nat) : Int)) (t_bel) (t_far)) (fun ov ow => ov = none ∧ ow = wTS cA t t_nc (lowerT c q (t_ce, t_ti, t_lo, t_hi, t_gl, t_sh, t_nl, t_bel, t_far))) 0 0 := by
  refine CT.mk (cc := cX5_lower) (maxL := 4) (ret := none) (by decide +kernel) rfl (Nat.le_of_ble_eq_true rfl) ?_
  intro p_ e_ s_ m_ b_ me_ c_ A F hnm hA
  have hV := @IM_P D s_ A
  have iX5 : ∀ w ∈ u_ws RX5 TX5 10, w ∈ wsX5_lower := by decide +kernel
  refine g_lsub ([(0, .ref (t 0)), (1, iv (((c : Nat) : Int))), (2, iv (q))]) [0, 1, 2] rfl ?_
  refine g_aload_n F 0 rfl rfl dX5_lower_0 ?_
  refine g_get F hV iX5 0 rfl rfl 4 (by decide) (List.mem_of_getElem? (i := 1) rfl) rfl dX5_lower_1 ?_
  refine g_iload_n F 1 rfl rfl dX5_lower_4 ?_
  refine g_iald F hV 5 rfl (c) (by omega) (by omega) (by decide) dX5_lower_5 ?_
  refine g_istore_n F ([(3, iv (t_gl c)), (0, .ref (t 0)), (1, iv (((c : Nat) : Int))), (2, iv (q))]) rfl rfl (by decide) dX5_lower_6 ?_
  refine g_iload_n F 0 rfl rfl dX5_lower_7 ?_
  refine g_if_lt F (tgt := 54) dX5_lower_8 (by decide) ⟨by omega, by omega⟩ (fun c_1 => ?_) (fun c_1 => ?_)
  · skip
    exact absurd c_1 (by omega)
  · skip
    refine g_iload_n F 0 rfl rfl dX5_lower_11 ?_
    refine g_aload_n F 1 rfl rfl dX5_lower_12 ?_
    refine g_get F hV iX5 0 rfl rfl 7 (by decide) (List.mem_of_getElem? (i := 2) rfl) rfl dX5_lower_13 ?_
    refine g_icmp_ge F (tgt := 54) dX5_lower_16 (by decide) ⟨by omega, by omega⟩ ⟨by omega, by omega⟩ (fun c_2 => ?_) (fun c_2 => ?_)
    · skip
      exact absurd c_2 (by omega)
    · skip
      refine g_aload_n F 1 rfl rfl dX5_lower_19 ?_
      refine g_get F hV iX5 0 rfl rfl 0 (by decide) (List.mem_of_getElem? (i := 3) rfl) rfl dX5_lower_20 ?_
      refine g_iload_n F 0 rfl rfl dX5_lower_23 ?_
      refine g_bipush F dX5_lower_24 (by decide) ?_
      refine g_imul F dX5_lower_26 ?_
      refine g_iconst F dX5_lower_27 ?_
      refine g_iadd F dX5_lower_28 ?_
      refine g_dup2 F rfl rfl dX5_lower_29 ?_
      refine g_lald F hV 1 rfl ((t_gl c).toNat * 6 + 5) (by omega) (by omega) (by decide) dX5_lower_30 ?_
      refine g_aload_n F 1 rfl rfl dX5_lower_31 ?_
      refine g_get F hV iX5 0 rfl rfl 3 (by decide) (List.mem_of_getElem? (i := 4) rfl) rfl dX5_lower_32 ?_
      refine g_iload_n F 2 rfl rfl dX5_lower_35 ?_
      refine g_iald F hV 4 rfl (c) (by omega) (by omega) (by decide) dX5_lower_36 ?_
      refine g_iload_n F 3 rfl rfl dX5_lower_37 ?_
      refine g_isub F dX5_lower_38 ?_
      refine g_i2l F ⟨by omega, by omega⟩ dX5_lower_39 ?_
      refine g_aload_n F 1 rfl rfl dX5_lower_40 ?_
      refine g_get F hV iX5 0 rfl rfl 8 (by decide) (List.mem_of_getElem? (i := 5) rfl) rfl dX5_lower_41 ?_
      refine g_lmul F dX5_lower_44 ?_
      refine g_lsub2 F dX5_lower_45 ?_
      refine g_last F 1 rfl ((t_gl c).toNat * 6 + 5) (by omega) (by omega) (by decide) (wT cA t (va_up t_ce ((t_gl c).toNat * 6 + 5) ((t_ce ((t_gl c).toNat * 6 + 5)) - (((t_hi c) - q) * t_bel))) (t_ti) (t_lo) (t_hi) (t_gl) (t_sh) (((t_nc : Nat) : Int)) (((t_nl : Nat) : Int)) (t_bel) (t_far)) rfl dX5_lower_46 ?_
      refine g_aload_n F 1 rfl rfl dX5_lower_47 ?_
      refine g_get F hV iX5 0 rfl rfl 3 (by decide) (List.mem_of_getElem? (i := 4) rfl) rfl dX5_lower_48 ?_
      refine g_iload_n F 2 rfl rfl dX5_lower_51 ?_
      refine g_iload_n F 3 rfl rfl dX5_lower_52 ?_
      refine g_iast F 4 rfl (c) (by omega) (by omega) (by decide) (wT cA t (va_up t_ce ((t_gl c).toNat * 6 + 5) ((t_ce ((t_gl c).toNat * 6 + 5)) - (((t_hi c) - q) * t_bel))) (t_ti) (t_lo) (va_up t_hi c q) (t_gl) (t_sh) (((t_nc : Nat) : Int)) (((t_nl : Nat) : Int)) (t_bel) (t_far)) rfl dX5_lower_53 ?_
      exact g_vret F rfl (by decide) (by decide) ⟨rfl, rfl⟩ dX5_lower_54

set_option maxHeartbeats 4000000 in
set_option maxRecDepth 100000 in
theorem kX5_holdAtNothing (l : Launch) (D : va_G) (cA : Nat → ClassId) (t : Nat → Nat) (t_ce : Nat → Int) (t_ti : Nat → Int) (t_lo : Nat → Int) (t_hi : Nat → Int) (t_gl : Nat → Int) (t_sh : Nat → Int) (t_nc : Nat) (t_nl : Nat) (t_bel : Int) (t_far : Int) (c : Nat) (hc : c < 5) (hlo : ∀ j, -20 ≤ t_lo j ∧ t_lo j ≤ 20) : CT l yX5_holdAtNothing wsX5_holdAtNothing ({ frames := 1, cells := 0, slots := 0, locals := 22 }) D cA [.ref (t 0), iv (((c : Nat) : Int))] (wT cA t (t_ce) (t_ti) (t_lo) (t_hi) (t_gl) (t_sh) (((t_nc : Nat) : Int)) (((t_nl : Nat) : Int)) (t_bel) (t_far)) (fun ov ow => ov = some (iv (if ¬ 0 < t_lo c then 1 else 0)) ∧ ow = wTS cA t t_nc (holdT c (t_ce, t_ti, t_lo, t_hi, t_gl, t_sh, t_nl, t_bel, t_far))) 0 0 := by
  refine CT.mk (cc := cX5_holdAtNothing) (maxL := 2) (ret := (some .boolean)) (by decide +kernel) rfl (Nat.le_of_ble_eq_true rfl) ?_
  intro p_ e_ s_ m_ b_ me_ c_ A F hnm hA
  have hV := @IM_P D s_ A
  have iX5 : ∀ w ∈ u_ws RX5 TX5 10, w ∈ wsX5_holdAtNothing := by decide +kernel
  refine g_lsub ([(0, .ref (t 0)), (1, iv (((c : Nat) : Int)))]) [0, 1] rfl ?_
  refine g_aload_n F 0 rfl rfl dX5_holdAtNothing_0 ?_
  refine g_get F hV iX5 0 rfl rfl 2 (by decide) (List.mem_of_getElem? (i := 1) rfl) rfl dX5_holdAtNothing_1 ?_
  refine g_iload_n F 1 rfl rfl dX5_holdAtNothing_4 ?_
  have r_1 := hlo (c)
  refine g_iald F hV 3 rfl (c) (by omega) (by omega) (by decide) dX5_holdAtNothing_5 ?_
  refine g_if_le F (tgt := 11) dX5_holdAtNothing_6 (by decide) ⟨by omega, by omega⟩ (fun c_2 => ?_) (fun c_2 => ?_)
  · skip
    refine g_aload_n F 0 rfl rfl dX5_holdAtNothing_11 ?_
    refine g_iload_n F 1 rfl rfl dX5_holdAtNothing_12 ?_
    refine g_iconst F dX5_holdAtNothing_13 ?_
    refine g_callV F (As := [iv (((c : Nat) : Int)), iv (0)]) (rest := []) (wr := []) (kX5_raise l D cA t t_ce t_ti t_lo t_hi t_gl t_sh t_nc t_nl t_bel t_far c 0 (hc) (hlo) (by omega)) (cwV 2 F.2.2.2.2.1 gX5_holdAtNothing_X5_raise rfl rfl rfl (by decide +kernel) ⟨Nat.le_of_ble_eq_true rfl, Nat.le_of_ble_eq_true rfl⟩) rfl rfl (q0 := 0) rfl [0, 1, 2, 3, 4, 5, 6] [] rfl rfl (by decide) (by decide) (by decide) rfl rfl (Nat.le_of_ble_eq_true rfl) ⟨Nat.le_of_ble_eq_true rfl, Nat.le_of_ble_eq_true rfl⟩ hA dX5_holdAtNothing_14 (fun v w hv => ?_)
    obtain ⟨hv, hw⟩ := hv
    subst hv
    subst hw
    refine g_wsub (wT cA t ((raiseT c 0 (t_ce, t_ti, t_lo, t_hi, t_gl, t_sh, t_nl, t_bel, t_far)).1) ((raiseT c 0 (t_ce, t_ti, t_lo, t_hi, t_gl, t_sh, t_nl, t_bel, t_far)).2.1) ((raiseT c 0 (t_ce, t_ti, t_lo, t_hi, t_gl, t_sh, t_nl, t_bel, t_far)).2.2.1) ((raiseT c 0 (t_ce, t_ti, t_lo, t_hi, t_gl, t_sh, t_nl, t_bel, t_far)).2.2.2.1) ((raiseT c 0 (t_ce, t_ti, t_lo, t_hi, t_gl, t_sh, t_nl, t_bel, t_far)).2.2.2.2.1) ((raiseT c 0 (t_ce, t_ti, t_lo, t_hi, t_gl, t_sh, t_nl, t_bel, t_far)).2.2.2.2.2.1) (((t_nc : Nat) : Int)) ((((raiseT c 0 (t_ce, t_ti, t_lo, t_hi, t_gl, t_sh, t_nl, t_bel, t_far)).2.2.2.2.2.2.1 : Nat) : Int)) ((raiseT c 0 (t_ce, t_ti, t_lo, t_hi, t_gl, t_sh, t_nl, t_bel, t_far)).2.2.2.2.2.2.2.1) ((raiseT c 0 (t_ce, t_ti, t_lo, t_hi, t_gl, t_sh, t_nl, t_bel, t_far)).2.2.2.2.2.2.2.2)) [0, 1, 2, 3, 4, 5, 6] (by decide) rfl ?_
    refine g_eq (st' := []) rfl rfl rfl ?_
    refine g_aload_n F 0 rfl rfl dX5_holdAtNothing_17 ?_
    refine g_get F hV iX5 0 rfl rfl 1 (by decide) (List.mem_of_getElem? (i := 2) rfl) rfl dX5_holdAtNothing_18 ?_
    refine g_iconst F dX5_holdAtNothing_21 ?_
    refine g_iload_n F 1 rfl rfl dX5_holdAtNothing_22 ?_
    refine g_iadd F dX5_holdAtNothing_23 ?_
    refine g_iconst F dX5_holdAtNothing_24 ?_
    refine g_iast F 2 rfl (1 + c) (by omega) (by omega) (by decide) (wT cA t ((raiseT c 0 (t_ce, t_ti, t_lo, t_hi, t_gl, t_sh, t_nl, t_bel, t_far)).1) (va_up ((raiseT c 0 (t_ce, t_ti, t_lo, t_hi, t_gl, t_sh, t_nl, t_bel, t_far)).2.1) (1 + c) 2) ((raiseT c 0 (t_ce, t_ti, t_lo, t_hi, t_gl, t_sh, t_nl, t_bel, t_far)).2.2.1) ((raiseT c 0 (t_ce, t_ti, t_lo, t_hi, t_gl, t_sh, t_nl, t_bel, t_far)).2.2.2.1) ((raiseT c 0 (t_ce, t_ti, t_lo, t_hi, t_gl, t_sh, t_nl, t_bel, t_far)).2.2.2.2.1) ((raiseT c 0 (t_ce, t_ti, t_lo, t_hi, t_gl, t_sh, t_nl, t_bel, t_far)).2.2.2.2.2.1) (((t_nc : Nat) : Int)) ((((raiseT c 0 (t_ce, t_ti, t_lo, t_hi, t_gl, t_sh, t_nl, t_bel, t_far)).2.2.2.2.2.2.1 : Nat) : Int)) ((raiseT c 0 (t_ce, t_ti, t_lo, t_hi, t_gl, t_sh, t_nl, t_bel, t_far)).2.2.2.2.2.2.2.1) ((raiseT c 0 (t_ce, t_ti, t_lo, t_hi, t_gl, t_sh, t_nl, t_bel, t_far)).2.2.2.2.2.2.2.2)) rfl dX5_holdAtNothing_25 ?_
    refine g_iconst F dX5_holdAtNothing_26 ?_
    exact g_zret F rfl (nar_01 (Or.inr rfl)) (by decide) (by decide) ⟨congrArg (fun z => some (iv z)) (show (1 : Int) = if ¬ 0 < t_lo c then 1 else 0 by first | rfl | (rw [if_neg (by omega)]; done) | (rw [if_pos (by omega)]; done) | (exfalso; omega)), (by unfold holdT; first | (rw [if_neg (show ¬ 0 < t_lo c by omega)] <;> rfl) | (rw [if_pos (show 0 < t_lo c by omega)] <;> rfl))⟩ dX5_holdAtNothing_27
  · skip
    refine g_iconst F dX5_holdAtNothing_9 ?_
    exact g_zret F rfl (nar_01 (Or.inl rfl)) (by decide) (by decide) ⟨congrArg (fun z => some (iv z)) (show (0 : Int) = if ¬ 0 < t_lo c then 1 else 0 by first | rfl | (rw [if_neg (by omega)]; done) | (rw [if_pos (by omega)]; done) | (exfalso; omega)), (by unfold holdT; first | (rw [if_neg (show ¬ 0 < t_lo c by omega)] <;> rfl) | (rw [if_pos (show 0 < t_lo c by omega)] <;> rfl))⟩ dX5_holdAtNothing_10

set_option maxHeartbeats 4000000 in
set_option maxRecDepth 100000 in
theorem kX5_beginColumn (l : Launch) (D : va_G) (cA : Nat → ClassId) (t : Nat → Nat) (t_ce : Nat → Int) (t_ti : Nat → Int) (t_lo : Nat → Int) (t_hi : Nat → Int) (t_gl : Nat → Int) (t_sh : Nat → Int) (t_nc : Nat) (t_nl : Nat) (t_bel : Int) (t_far : Int) (a : Nat → Nat) (a_kd : Nat → Int) (a_lo : Nat → Int) (a_hi : Nat → Int) (a_co : Nat → Int) (a_pa : Nat → Int) (a_rk : Nat → Int) (a_nu : Nat → Int) (a_ct : Nat → Int) (a_sa : Nat → Int) (a_nc : Nat) (a_nr : Nat) (c : Nat) (q : Int) (hc : c < 5) (hq : -9 ≤ q ∧ q ≤ 9) (hnl : t_nl < 18) (hpl : ∀ j, -20 ≤ a_lo j ∧ a_lo j ≤ 20) (hph : ∀ j, a_hi j = -2000000005 ∨ (-20 ≤ a_hi j ∧ a_hi j ≤ 20)) : CT l yX5_beginColumn wsX5_beginColumn ({ frames := 1, cells := 0, slots := 0, locals := 23 }) D cA [.ref (t 0), .ref (a 0), iv (((c : Nat) : Int)), iv (q)] (wT cA t (t_ce) (t_ti) (t_lo) (t_hi) (t_gl) (t_sh) (((t_nc : Nat) : Int)) (((t_nl : Nat) : Int)) (t_bel) (t_far) ++ wP cA a (a_kd) (a_lo) (a_hi) (a_co) (a_pa) (a_rk) (a_nu) (a_ct) (a_sa) (((a_nc : Nat) : Int)) (((a_nr : Nat) : Int))) (fun ov ow => ov = none ∧ ow = wTS cA t t_nc (bcT c q (a_lo c) (a_hi c) (t_ce, t_ti, t_lo, t_hi, t_gl, t_sh, t_nl, t_bel, t_far)) ++ wP cA a a_kd a_lo a_hi a_co a_pa a_rk a_nu a_ct a_sa (a_nc : Int) (a_nr : Int)) 0 0 := by
  refine CT.mk (cc := cX5_beginColumn) (maxL := 10) (ret := none) (by decide +kernel) rfl (Nat.le_of_ble_eq_true rfl) ?_
  intro p_ e_ s_ m_ b_ me_ c_ A F hnm hA
  have hV := @IM_P D s_ A
  have iX2 : ∀ w ∈ u_ws RX2 TX2 11, w ∈ wsX5_beginColumn := by decide +kernel
  have iX5 : ∀ w ∈ u_ws RX5 TX5 10, w ∈ wsX5_beginColumn := by decide +kernel
  have hl := hpl c
  have hh := hph c
  have hm1 := mul_nat (x := q) (y := a_lo c) (a := 9) (b := 20) (by omega) (by omega)
  have hm2 : a_hi c ≠ -2000000005 → (q * a_hi c).natAbs ≤ 9 * 20 := fun _ => mul_nat (by omega) (by omega)
  refine g_lsub ([(0, .ref (t 0)), (1, .ref (a 0)), (2, iv (((c : Nat) : Int))), (3, iv (q))]) [0, 1, 2, 3] rfl ?_
  refine g_aload_n F 1 rfl rfl dX5_beginColumn_0 ?_
  refine g_get F hV iX2 7 rfl rfl 1 (by decide) (List.mem_of_getElem? (i := 1) rfl) rfl dX5_beginColumn_1 ?_
  refine g_iload_n F 2 rfl rfl dX5_beginColumn_4 ?_
  refine g_iald F hV 9 rfl (c) (by omega) (by omega) (by decide) dX5_beginColumn_5 ?_
  refine g_istore F ([(4, iv (a_lo c)), (0, .ref (t 0)), (1, .ref (a 0)), (2, iv (((c : Nat) : Int))), (3, iv (q))]) rfl (by decide) dX5_beginColumn_6 ?_
  refine g_aload_n F 2 rfl rfl dX5_beginColumn_8 ?_
  refine g_get F hV iX2 7 rfl rfl 2 (by decide) (List.mem_of_getElem? (i := 2) rfl) rfl dX5_beginColumn_9 ?_
  refine g_iload_n F 3 rfl rfl dX5_beginColumn_12 ?_
  refine g_iald F hV 10 rfl (c) (by omega) (by omega) (by decide) dX5_beginColumn_13 ?_
  refine g_istore F ([(5, iv (a_hi c)), (4, iv (a_lo c)), (0, .ref (t 0)), (1, .ref (a 0)), (2, iv (((c : Nat) : Int))), (3, iv (q))]) rfl (by decide) dX5_beginColumn_14 ?_
  refine g_iload_n F 5 rfl rfl dX5_beginColumn_16 ?_
  refine g_if_ge F (tgt := 31) dX5_beginColumn_17 (by decide) ⟨by omega, by omega⟩ (fun c_1 => ?_) (fun c_1 => ?_)
  · skip
    refine g_iconst F dX5_beginColumn_31 ?_
    refine g_istore F ([(6, iv (0)), (5, iv (a_hi c)), (4, iv (a_lo c)), (0, .ref (t 0)), (1, .ref (a 0)), (2, iv (((c : Nat) : Int))), (3, iv (q))]) rfl (by decide) dX5_beginColumn_32 ?_
    refine g_iload F 0 rfl dX5_beginColumn_34 ?_
    refine g_if_eq F (tgt := 44) dX5_beginColumn_36 (by decide) ⟨by decide, by decide⟩ (fun c_2 => ?_) (fun c_2 => ?_)
    · skip
      refine g_iload F 2 rfl dX5_beginColumn_44 ?_
      refine g_istore F ([(7, iv (a_lo c)), (6, iv (0)), (5, iv (a_hi c)), (4, iv (a_lo c)), (0, .ref (t 0)), (1, .ref (a 0)), (2, iv (((c : Nat) : Int))), (3, iv (q))]) rfl (by decide) dX5_beginColumn_46 ?_
      refine g_iload F 1 rfl dX5_beginColumn_48 ?_
      refine g_if_eq F (tgt := 57) dX5_beginColumn_50 (by decide) ⟨by decide, by decide⟩ (fun c_3 => ?_) (fun c_3 => ?_)
      · skip
        refine g_iconst F dX5_beginColumn_57 ?_
        refine g_istore F ([(8, iv (1)), (7, iv (a_lo c)), (6, iv (0)), (5, iv (a_hi c)), (4, iv (a_lo c)), (0, .ref (t 0)), (1, .ref (a 0)), (2, iv (((c : Nat) : Int))), (3, iv (q))]) rfl (by decide) dX5_beginColumn_58 ?_
        refine g_aload_n F 5 rfl rfl dX5_beginColumn_60 ?_
        refine g_get F hV iX5 0 rfl rfl 2 (by decide) (List.mem_of_getElem? (i := 4) rfl) rfl dX5_beginColumn_61 ?_
        refine g_iload_n F 7 rfl rfl dX5_beginColumn_64 ?_
        refine g_iload F 4 rfl dX5_beginColumn_65 ?_
        refine g_iast F 3 rfl (c) (by omega) (by omega) (by decide) (wT cA t (t_ce) (t_ti) (va_up t_lo c (a_lo c)) (t_hi) (t_gl) (t_sh) (((t_nc : Nat) : Int)) (((t_nl : Nat) : Int)) (t_bel) (t_far) ++ wP cA a (a_kd) (a_lo) (a_hi) (a_co) (a_pa) (a_rk) (a_nu) (a_ct) (a_sa) (((a_nc : Nat) : Int)) (((a_nr : Nat) : Int))) rfl dX5_beginColumn_67 ?_
        refine g_aload_n F 5 rfl rfl dX5_beginColumn_68 ?_
        refine g_get F hV iX5 0 rfl rfl 3 (by decide) (List.mem_of_getElem? (i := 5) rfl) rfl dX5_beginColumn_69 ?_
        refine g_iload_n F 7 rfl rfl dX5_beginColumn_72 ?_
        refine g_iload F 3 rfl dX5_beginColumn_73 ?_
        refine g_iast F 4 rfl (c) (by omega) (by omega) (by decide) (wT cA t (t_ce) (t_ti) (va_up t_lo c (a_lo c)) (va_up t_hi c (a_hi c)) (t_gl) (t_sh) (((t_nc : Nat) : Int)) (((t_nl : Nat) : Int)) (t_bel) (t_far) ++ wP cA a (a_kd) (a_lo) (a_hi) (a_co) (a_pa) (a_rk) (a_nu) (a_ct) (a_sa) (((a_nc : Nat) : Int)) (((a_nr : Nat) : Int))) rfl dX5_beginColumn_75 ?_
        refine g_aload_n F 5 rfl rfl dX5_beginColumn_76 ?_
        refine g_get F hV iX5 0 rfl rfl 4 (by decide) (List.mem_of_getElem? (i := 6) rfl) rfl dX5_beginColumn_77 ?_
        refine g_iload_n F 7 rfl rfl dX5_beginColumn_80 ?_
        refine g_iconst F dX5_beginColumn_81 ?_
        refine g_iast F 5 rfl (c) (by omega) (by omega) (by decide) (wT cA t (t_ce) (t_ti) (va_up t_lo c (a_lo c)) (va_up t_hi c (a_hi c)) (va_up t_gl c (-1)) (t_sh) (((t_nc : Nat) : Int)) (((t_nl : Nat) : Int)) (t_bel) (t_far) ++ wP cA a (a_kd) (a_lo) (a_hi) (a_co) (a_pa) (a_rk) (a_nu) (a_ct) (a_sa) (((a_nc : Nat) : Int)) (((a_nr : Nat) : Int))) rfl dX5_beginColumn_82 ?_
        refine g_aload_n F 5 rfl rfl dX5_beginColumn_83 ?_
        refine g_get F hV iX5 0 rfl rfl 5 (by decide) (List.mem_of_getElem? (i := 7) rfl) rfl dX5_beginColumn_84 ?_
        refine g_iload_n F 7 rfl rfl dX5_beginColumn_87 ?_
        refine g_iconst F dX5_beginColumn_88 ?_
        refine g_zast F 6 rfl (c) (Or.inl rfl) (by omega) (by omega) (by decide) (wT cA t (t_ce) (t_ti) (va_up t_lo c (a_lo c)) (va_up t_hi c (a_hi c)) (va_up t_gl c (-1)) (va_up t_sh c 0) (((t_nc : Nat) : Int)) (((t_nl : Nat) : Int)) (t_bel) (t_far) ++ wP cA a (a_kd) (a_lo) (a_hi) (a_co) (a_pa) (a_rk) (a_nu) (a_ct) (a_sa) (((a_nc : Nat) : Int)) (((a_nr : Nat) : Int))) rfl dX5_beginColumn_89 ?_
        refine g_aload_n F 5 rfl rfl dX5_beginColumn_90 ?_
        refine g_get F hV iX5 0 rfl rfl 0 (by decide) (List.mem_of_getElem? (i := 8) rfl) rfl dX5_beginColumn_91 ?_
        refine g_iload_n F 7 rfl rfl dX5_beginColumn_94 ?_
        refine g_iload_n F 8 rfl rfl dX5_beginColumn_95 ?_
        refine g_iload F 0 rfl dX5_beginColumn_96 ?_
        refine g_imul F dX5_beginColumn_98 ?_
        refine g_i2l F ⟨by omega, by omega⟩ dX5_beginColumn_99 ?_
        refine g_last F 1 rfl (c) (by omega) (by omega) (by decide) (wT cA t (va_up t_ce c (q * 1)) (t_ti) (va_up t_lo c (a_lo c)) (va_up t_hi c (a_hi c)) (va_up t_gl c (-1)) (va_up t_sh c 0) (((t_nc : Nat) : Int)) (((t_nl : Nat) : Int)) (t_bel) (t_far) ++ wP cA a (a_kd) (a_lo) (a_hi) (a_co) (a_pa) (a_rk) (a_nu) (a_ct) (a_sa) (((a_nc : Nat) : Int)) (((a_nr : Nat) : Int))) rfl dX5_beginColumn_100 ?_
        refine g_aload_n F 5 rfl rfl dX5_beginColumn_101 ?_
        refine g_get F hV iX5 0 rfl rfl 0 (by decide) (List.mem_of_getElem? (i := 8) rfl) rfl dX5_beginColumn_102 ?_
        refine g_iconst F dX5_beginColumn_105 ?_
        refine g_dup2 F rfl rfl dX5_beginColumn_106 ?_
        refine g_lald F hV 1 rfl (5) (by omega) (by omega) (by decide) dX5_beginColumn_107 ?_
        refine g_iload_n F 8 rfl rfl dX5_beginColumn_108 ?_
        refine g_iload F 1 rfl dX5_beginColumn_109 ?_
        refine g_imul F dX5_beginColumn_111 ?_
        refine g_i2l F ⟨by omega, by omega⟩ dX5_beginColumn_112 ?_
        refine g_ladd F dX5_beginColumn_113 ?_
        refine g_last F 1 rfl (5) (by omega) (by omega) (by decide) (wT cA t (va_up (va_up t_ce c (q * 1)) 5 (((va_up t_ce c (q * 1)) 5) + (q * (a_lo c)))) (t_ti) (va_up t_lo c (a_lo c)) (va_up t_hi c (a_hi c)) (va_up t_gl c (-1)) (va_up t_sh c 0) (((t_nc : Nat) : Int)) (((t_nl : Nat) : Int)) (t_bel) (t_far) ++ wP cA a (a_kd) (a_lo) (a_hi) (a_co) (a_pa) (a_rk) (a_nu) (a_ct) (a_sa) (((a_nc : Nat) : Int)) (((a_nr : Nat) : Int))) rfl dX5_beginColumn_114 ?_
        refine g_aload_n F 5 rfl rfl dX5_beginColumn_115 ?_
        refine g_get F hV iX5 0 rfl rfl 0 (by decide) (List.mem_of_getElem? (i := 8) rfl) rfl dX5_beginColumn_116 ?_
        refine g_iconst F dX5_beginColumn_119 ?_
        refine g_iload_n F 7 rfl rfl dX5_beginColumn_120 ?_
        refine g_iadd F dX5_beginColumn_121 ?_
        refine g_bipush F dX5_beginColumn_122 (by decide) ?_
        refine g_imul F dX5_beginColumn_124 ?_
        refine g_iload_n F 7 rfl rfl dX5_beginColumn_125 ?_
        refine g_iadd F dX5_beginColumn_126 ?_
        refine g_iload F 0 rfl dX5_beginColumn_127 ?_
        refine g_i2l F ⟨by decide, by decide⟩ dX5_beginColumn_129 ?_
        refine g_last F 1 rfl (((1 + c) * 6) + c) (by omega) (by omega) (by decide) (wT cA t (va_up (va_up (va_up t_ce c (q * 1)) 5 (((va_up t_ce c (q * 1)) 5) + (q * (a_lo c)))) (((1 + c) * 6) + c) 1) (t_ti) (va_up t_lo c (a_lo c)) (va_up t_hi c (a_hi c)) (va_up t_gl c (-1)) (va_up t_sh c 0) (((t_nc : Nat) : Int)) (((t_nl : Nat) : Int)) (t_bel) (t_far) ++ wP cA a (a_kd) (a_lo) (a_hi) (a_co) (a_pa) (a_rk) (a_nu) (a_ct) (a_sa) (((a_nc : Nat) : Int)) (((a_nr : Nat) : Int))) rfl dX5_beginColumn_130 ?_
        refine g_aload_n F 5 rfl rfl dX5_beginColumn_131 ?_
        refine g_get F hV iX5 0 rfl rfl 0 (by decide) (List.mem_of_getElem? (i := 8) rfl) rfl dX5_beginColumn_132 ?_
        refine g_iconst F dX5_beginColumn_135 ?_
        refine g_iload_n F 7 rfl rfl dX5_beginColumn_136 ?_
        refine g_iadd F dX5_beginColumn_137 ?_
        refine g_bipush F dX5_beginColumn_138 (by decide) ?_
        refine g_imul F dX5_beginColumn_140 ?_
        refine g_iconst F dX5_beginColumn_141 ?_
        refine g_iadd F dX5_beginColumn_142 ?_
        refine g_iload F 1 rfl dX5_beginColumn_143 ?_
        refine g_iload F 4 rfl dX5_beginColumn_145 ?_
        refine g_isub F dX5_beginColumn_147 ?_
        refine g_i2l F ⟨by omega, by omega⟩ dX5_beginColumn_148 ?_
        refine g_last F 1 rfl (((1 + c) * 6) + 5) (by omega) (by omega) (by decide) (wT cA t (va_up (va_up (va_up (va_up t_ce c (q * 1)) 5 (((va_up t_ce c (q * 1)) 5) + (q * (a_lo c)))) (((1 + c) * 6) + c) 1) (((1 + c) * 6) + 5) ((a_lo c) - (a_lo c))) (t_ti) (va_up t_lo c (a_lo c)) (va_up t_hi c (a_hi c)) (va_up t_gl c (-1)) (va_up t_sh c 0) (((t_nc : Nat) : Int)) (((t_nl : Nat) : Int)) (t_bel) (t_far) ++ wP cA a (a_kd) (a_lo) (a_hi) (a_co) (a_pa) (a_rk) (a_nu) (a_ct) (a_sa) (((a_nc : Nat) : Int)) (((a_nr : Nat) : Int))) rfl dX5_beginColumn_149 ?_
        refine g_iload F 3 rfl dX5_beginColumn_150 ?_
        refine g_ldc F (-2000000005) (by decide) (List.mem_of_getElem? (i := 3) rfl) dX5_beginColumn_152 ?_
        refine g_icmp_eq F (tgt := 202) dX5_beginColumn_154 (by decide) ⟨by omega, by omega⟩ ⟨by decide, by decide⟩ (fun c_4 => ?_) (fun c_4 => ?_)
        · skip
          exact g_vret F rfl (by decide) (by decide) ⟨rfl, (by unfold bcT startZ wayZ bcC; first | (rw [if_pos (show a_hi c = -2000000005 by omega), if_neg (show ¬ (q < 0 ∧ a_hi c ≠ -2000000005) by omega), if_neg (show ¬ (q < 0 ∧ a_hi c ≠ -2000000005) by omega)] <;> rfl) | (rw [if_neg (show ¬ a_hi c = -2000000005 by omega), if_neg (show ¬ (q < 0 ∧ a_hi c ≠ -2000000005) by omega), if_neg (show ¬ (q < 0 ∧ a_hi c ≠ -2000000005) by omega)] <;> rfl) | (rw [if_neg (show ¬ a_hi c = -2000000005 by omega), if_pos (show q < 0 ∧ a_hi c ≠ -2000000005 by omega), if_pos (show q < 0 ∧ a_hi c ≠ -2000000005 by omega)] <;> rfl))⟩ dX5_beginColumn_202
        · skip
          refine g_aload_n F 5 rfl rfl dX5_beginColumn_157 ?_
          refine g_get F hV iX5 0 rfl rfl 4 (by decide) (List.mem_of_getElem? (i := 6) rfl) rfl dX5_beginColumn_158 ?_
          refine g_iload_n F 7 rfl rfl dX5_beginColumn_161 ?_
          refine g_aload_n F 5 rfl rfl dX5_beginColumn_162 ?_
          refine g_get F hV iX5 0 rfl rfl 7 (by decide) (List.mem_of_getElem? (i := 9) rfl) rfl dX5_beginColumn_163 ?_
          refine g_iast F 5 rfl (c) (by omega) (by omega) (by decide) (wT cA t (va_up (va_up (va_up (va_up t_ce c (q * 1)) 5 (((va_up t_ce c (q * 1)) 5) + (q * (a_lo c)))) (((1 + c) * 6) + c) 1) (((1 + c) * 6) + 5) ((a_lo c) - (a_lo c))) (t_ti) (va_up t_lo c (a_lo c)) (va_up t_hi c (a_hi c)) (va_up (va_up t_gl c (-1)) c (((t_nl : Nat) : Int))) (va_up t_sh c 0) (((t_nc : Nat) : Int)) (((t_nl : Nat) : Int)) (t_bel) (t_far) ++ wP cA a (a_kd) (a_lo) (a_hi) (a_co) (a_pa) (a_rk) (a_nu) (a_ct) (a_sa) (((a_nc : Nat) : Int)) (((a_nr : Nat) : Int))) rfl dX5_beginColumn_166 ?_
          refine g_aload_n F 5 rfl rfl dX5_beginColumn_167 ?_
          refine g_iconst F dX5_beginColumn_168 ?_
          refine g_callV F (As := [iv (1)]) (rest := []) (wr := wP cA a (a_kd) (a_lo) (a_hi) (a_co) (a_pa) (a_rk) (a_nu) (a_ct) (a_sa) (((a_nc : Nat) : Int)) (((a_nr : Nat) : Int))) (kX5_addLine l D cA t (va_up (va_up (va_up (va_up t_ce c (q * 1)) 5 (((va_up t_ce c (q * 1)) 5) + (q * (a_lo c)))) (((1 + c) * 6) + c) 1) (((1 + c) * 6) + 5) ((a_lo c) - (a_lo c))) t_ti (va_up t_lo c (a_lo c)) (va_up t_hi c (a_hi c)) (va_up (va_up t_gl c (-1)) c (((t_nl : Nat) : Int))) (va_up t_sh c 0) t_nc t_nl t_bel t_far 1 (hnl) (by omega)) (cwV 1 F.2.2.2.2.1 gX5_beginColumn_X5_addLine rfl rfl rfl (by decide +kernel) ⟨Nat.le_of_ble_eq_true rfl, Nat.le_of_ble_eq_true rfl⟩) rfl rfl (q0 := 0) rfl [0, 1, 2, 3, 4, 5, 6] [7, 8, 9, 10, 11, 12, 13, 14, 15, 16] rfl rfl (by decide) (by decide) (by decide) rfl rfl (Nat.le_of_ble_eq_true rfl) ⟨Nat.le_of_ble_eq_true rfl, Nat.le_of_ble_eq_true rfl⟩ hA dX5_beginColumn_169 (fun v w hv => ?_)
          obtain ⟨hv, hw⟩ := hv
          subst hv
          subst hw
          refine g_wsub (wT cA t ((addLineT 1 ((va_up (va_up (va_up (va_up t_ce c (q * 1)) 5 (((va_up t_ce c (q * 1)) 5) + (q * (a_lo c)))) (((1 + c) * 6) + c) 1) (((1 + c) * 6) + 5) ((a_lo c) - (a_lo c))), t_ti, (va_up t_lo c (a_lo c)), (va_up t_hi c (a_hi c)), (va_up (va_up t_gl c (-1)) c (((t_nl : Nat) : Int))), (va_up t_sh c 0), t_nl, t_bel, t_far)).1) ((addLineT 1 ((va_up (va_up (va_up (va_up t_ce c (q * 1)) 5 (((va_up t_ce c (q * 1)) 5) + (q * (a_lo c)))) (((1 + c) * 6) + c) 1) (((1 + c) * 6) + 5) ((a_lo c) - (a_lo c))), t_ti, (va_up t_lo c (a_lo c)), (va_up t_hi c (a_hi c)), (va_up (va_up t_gl c (-1)) c (((t_nl : Nat) : Int))), (va_up t_sh c 0), t_nl, t_bel, t_far)).2.1) ((addLineT 1 ((va_up (va_up (va_up (va_up t_ce c (q * 1)) 5 (((va_up t_ce c (q * 1)) 5) + (q * (a_lo c)))) (((1 + c) * 6) + c) 1) (((1 + c) * 6) + 5) ((a_lo c) - (a_lo c))), t_ti, (va_up t_lo c (a_lo c)), (va_up t_hi c (a_hi c)), (va_up (va_up t_gl c (-1)) c (((t_nl : Nat) : Int))), (va_up t_sh c 0), t_nl, t_bel, t_far)).2.2.1) ((addLineT 1 ((va_up (va_up (va_up (va_up t_ce c (q * 1)) 5 (((va_up t_ce c (q * 1)) 5) + (q * (a_lo c)))) (((1 + c) * 6) + c) 1) (((1 + c) * 6) + 5) ((a_lo c) - (a_lo c))), t_ti, (va_up t_lo c (a_lo c)), (va_up t_hi c (a_hi c)), (va_up (va_up t_gl c (-1)) c (((t_nl : Nat) : Int))), (va_up t_sh c 0), t_nl, t_bel, t_far)).2.2.2.1) ((addLineT 1 ((va_up (va_up (va_up (va_up t_ce c (q * 1)) 5 (((va_up t_ce c (q * 1)) 5) + (q * (a_lo c)))) (((1 + c) * 6) + c) 1) (((1 + c) * 6) + 5) ((a_lo c) - (a_lo c))), t_ti, (va_up t_lo c (a_lo c)), (va_up t_hi c (a_hi c)), (va_up (va_up t_gl c (-1)) c (((t_nl : Nat) : Int))), (va_up t_sh c 0), t_nl, t_bel, t_far)).2.2.2.2.1) ((addLineT 1 ((va_up (va_up (va_up (va_up t_ce c (q * 1)) 5 (((va_up t_ce c (q * 1)) 5) + (q * (a_lo c)))) (((1 + c) * 6) + c) 1) (((1 + c) * 6) + 5) ((a_lo c) - (a_lo c))), t_ti, (va_up t_lo c (a_lo c)), (va_up t_hi c (a_hi c)), (va_up (va_up t_gl c (-1)) c (((t_nl : Nat) : Int))), (va_up t_sh c 0), t_nl, t_bel, t_far)).2.2.2.2.2.1) (((t_nc : Nat) : Int)) ((((addLineT 1 ((va_up (va_up (va_up (va_up t_ce c (q * 1)) 5 (((va_up t_ce c (q * 1)) 5) + (q * (a_lo c)))) (((1 + c) * 6) + c) 1) (((1 + c) * 6) + 5) ((a_lo c) - (a_lo c))), t_ti, (va_up t_lo c (a_lo c)), (va_up t_hi c (a_hi c)), (va_up (va_up t_gl c (-1)) c (((t_nl : Nat) : Int))), (va_up t_sh c 0), t_nl, t_bel, t_far)).2.2.2.2.2.2.1 : Nat) : Int)) ((addLineT 1 ((va_up (va_up (va_up (va_up t_ce c (q * 1)) 5 (((va_up t_ce c (q * 1)) 5) + (q * (a_lo c)))) (((1 + c) * 6) + c) 1) (((1 + c) * 6) + 5) ((a_lo c) - (a_lo c))), t_ti, (va_up t_lo c (a_lo c)), (va_up t_hi c (a_hi c)), (va_up (va_up t_gl c (-1)) c (((t_nl : Nat) : Int))), (va_up t_sh c 0), t_nl, t_bel, t_far)).2.2.2.2.2.2.2.1) ((addLineT 1 ((va_up (va_up (va_up (va_up t_ce c (q * 1)) 5 (((va_up t_ce c (q * 1)) 5) + (q * (a_lo c)))) (((1 + c) * 6) + c) 1) (((1 + c) * 6) + 5) ((a_lo c) - (a_lo c))), t_ti, (va_up t_lo c (a_lo c)), (va_up t_hi c (a_hi c)), (va_up (va_up t_gl c (-1)) c (((t_nl : Nat) : Int))), (va_up t_sh c 0), t_nl, t_bel, t_far)).2.2.2.2.2.2.2.2) ++ wP cA a (a_kd) (a_lo) (a_hi) (a_co) (a_pa) (a_rk) (a_nu) (a_ct) (a_sa) (((a_nc : Nat) : Int)) (((a_nr : Nat) : Int))) [10, 11, 12, 13, 14, 15, 16, 0, 1, 2, 3, 4, 5, 6, 7, 8, 9] (by decide) rfl ?_
          refine g_eq (st' := [iv (((t_nl * 6 : Nat) : Int))]) rfl rfl rfl ?_
          refine g_istore F ([(9, iv (((t_nl * 6 : Nat) : Int))), (8, iv (1)), (7, iv (a_lo c)), (6, iv (0)), (5, iv (a_hi c)), (4, iv (a_lo c)), (0, .ref (t 0)), (1, .ref (a 0)), (2, iv (((c : Nat) : Int))), (3, iv (q))]) rfl (by decide) dX5_beginColumn_172 ?_
          refine g_aload_n F 6 rfl rfl dX5_beginColumn_174 ?_
          refine g_get F hV iX5 0 rfl rfl 0 (by decide) (List.mem_of_getElem? (i := 8) rfl) rfl dX5_beginColumn_175 ?_
          refine g_iload F 0 rfl dX5_beginColumn_178 ?_
          refine g_iload_n F 8 rfl rfl dX5_beginColumn_180 ?_
          refine g_iadd F dX5_beginColumn_181 ?_
          refine g_iload F 1 rfl dX5_beginColumn_182 ?_
          refine g_ineg F dX5_beginColumn_184 ?_
          refine g_i2l F ⟨by decide, by decide⟩ dX5_beginColumn_185 ?_
          refine g_last F 1 rfl ((t_nl * 6) + c) (by omega) (by omega) (by decide) (wT cA t (va_up ((addLineT 1 ((va_up (va_up (va_up (va_up t_ce c (q * 1)) 5 (((va_up t_ce c (q * 1)) 5) + (q * (a_lo c)))) (((1 + c) * 6) + c) 1) (((1 + c) * 6) + 5) ((a_lo c) - (a_lo c))), t_ti, (va_up t_lo c (a_lo c)), (va_up t_hi c (a_hi c)), (va_up (va_up t_gl c (-1)) c (((t_nl : Nat) : Int))), (va_up t_sh c 0), t_nl, t_bel, t_far)).1) ((t_nl * 6) + c) (-1)) ((addLineT 1 ((va_up (va_up (va_up (va_up t_ce c (q * 1)) 5 (((va_up t_ce c (q * 1)) 5) + (q * (a_lo c)))) (((1 + c) * 6) + c) 1) (((1 + c) * 6) + 5) ((a_lo c) - (a_lo c))), t_ti, (va_up t_lo c (a_lo c)), (va_up t_hi c (a_hi c)), (va_up (va_up t_gl c (-1)) c (((t_nl : Nat) : Int))), (va_up t_sh c 0), t_nl, t_bel, t_far)).2.1) ((addLineT 1 ((va_up (va_up (va_up (va_up t_ce c (q * 1)) 5 (((va_up t_ce c (q * 1)) 5) + (q * (a_lo c)))) (((1 + c) * 6) + c) 1) (((1 + c) * 6) + 5) ((a_lo c) - (a_lo c))), t_ti, (va_up t_lo c (a_lo c)), (va_up t_hi c (a_hi c)), (va_up (va_up t_gl c (-1)) c (((t_nl : Nat) : Int))), (va_up t_sh c 0), t_nl, t_bel, t_far)).2.2.1) ((addLineT 1 ((va_up (va_up (va_up (va_up t_ce c (q * 1)) 5 (((va_up t_ce c (q * 1)) 5) + (q * (a_lo c)))) (((1 + c) * 6) + c) 1) (((1 + c) * 6) + 5) ((a_lo c) - (a_lo c))), t_ti, (va_up t_lo c (a_lo c)), (va_up t_hi c (a_hi c)), (va_up (va_up t_gl c (-1)) c (((t_nl : Nat) : Int))), (va_up t_sh c 0), t_nl, t_bel, t_far)).2.2.2.1) ((addLineT 1 ((va_up (va_up (va_up (va_up t_ce c (q * 1)) 5 (((va_up t_ce c (q * 1)) 5) + (q * (a_lo c)))) (((1 + c) * 6) + c) 1) (((1 + c) * 6) + 5) ((a_lo c) - (a_lo c))), t_ti, (va_up t_lo c (a_lo c)), (va_up t_hi c (a_hi c)), (va_up (va_up t_gl c (-1)) c (((t_nl : Nat) : Int))), (va_up t_sh c 0), t_nl, t_bel, t_far)).2.2.2.2.1) ((addLineT 1 ((va_up (va_up (va_up (va_up t_ce c (q * 1)) 5 (((va_up t_ce c (q * 1)) 5) + (q * (a_lo c)))) (((1 + c) * 6) + c) 1) (((1 + c) * 6) + 5) ((a_lo c) - (a_lo c))), t_ti, (va_up t_lo c (a_lo c)), (va_up t_hi c (a_hi c)), (va_up (va_up t_gl c (-1)) c (((t_nl : Nat) : Int))), (va_up t_sh c 0), t_nl, t_bel, t_far)).2.2.2.2.2.1) (((t_nc : Nat) : Int)) ((((addLineT 1 ((va_up (va_up (va_up (va_up t_ce c (q * 1)) 5 (((va_up t_ce c (q * 1)) 5) + (q * (a_lo c)))) (((1 + c) * 6) + c) 1) (((1 + c) * 6) + 5) ((a_lo c) - (a_lo c))), t_ti, (va_up t_lo c (a_lo c)), (va_up t_hi c (a_hi c)), (va_up (va_up t_gl c (-1)) c (((t_nl : Nat) : Int))), (va_up t_sh c 0), t_nl, t_bel, t_far)).2.2.2.2.2.2.1 : Nat) : Int)) ((addLineT 1 ((va_up (va_up (va_up (va_up t_ce c (q * 1)) 5 (((va_up t_ce c (q * 1)) 5) + (q * (a_lo c)))) (((1 + c) * 6) + c) 1) (((1 + c) * 6) + 5) ((a_lo c) - (a_lo c))), t_ti, (va_up t_lo c (a_lo c)), (va_up t_hi c (a_hi c)), (va_up (va_up t_gl c (-1)) c (((t_nl : Nat) : Int))), (va_up t_sh c 0), t_nl, t_bel, t_far)).2.2.2.2.2.2.2.1) ((addLineT 1 ((va_up (va_up (va_up (va_up t_ce c (q * 1)) 5 (((va_up t_ce c (q * 1)) 5) + (q * (a_lo c)))) (((1 + c) * 6) + c) 1) (((1 + c) * 6) + 5) ((a_lo c) - (a_lo c))), t_ti, (va_up t_lo c (a_lo c)), (va_up t_hi c (a_hi c)), (va_up (va_up t_gl c (-1)) c (((t_nl : Nat) : Int))), (va_up t_sh c 0), t_nl, t_bel, t_far)).2.2.2.2.2.2.2.2) ++ wP cA a (a_kd) (a_lo) (a_hi) (a_co) (a_pa) (a_rk) (a_nu) (a_ct) (a_sa) (((a_nc : Nat) : Int)) (((a_nr : Nat) : Int))) rfl dX5_beginColumn_186 ?_
          refine g_aload_n F 6 rfl rfl dX5_beginColumn_187 ?_
          refine g_get F hV iX5 0 rfl rfl 0 (by decide) (List.mem_of_getElem? (i := 8) rfl) rfl dX5_beginColumn_188 ?_
          refine g_iload F 0 rfl dX5_beginColumn_191 ?_
          refine g_iconst F dX5_beginColumn_193 ?_
          refine g_iadd F dX5_beginColumn_194 ?_
          refine g_iload F 4 rfl dX5_beginColumn_195 ?_
          refine g_iload F 2 rfl dX5_beginColumn_197 ?_
          refine g_isub F dX5_beginColumn_199 ?_
          refine g_i2l F ⟨by omega, by omega⟩ dX5_beginColumn_200 ?_
          refine g_last F 1 rfl ((t_nl * 6) + 5) (by omega) (by omega) (by decide) (wT cA t (va_up (va_up ((addLineT 1 ((va_up (va_up (va_up (va_up t_ce c (q * 1)) 5 (((va_up t_ce c (q * 1)) 5) + (q * (a_lo c)))) (((1 + c) * 6) + c) 1) (((1 + c) * 6) + 5) ((a_lo c) - (a_lo c))), t_ti, (va_up t_lo c (a_lo c)), (va_up t_hi c (a_hi c)), (va_up (va_up t_gl c (-1)) c (((t_nl : Nat) : Int))), (va_up t_sh c 0), t_nl, t_bel, t_far)).1) ((t_nl * 6) + c) (-1)) ((t_nl * 6) + 5) ((a_hi c) - (a_lo c))) ((addLineT 1 ((va_up (va_up (va_up (va_up t_ce c (q * 1)) 5 (((va_up t_ce c (q * 1)) 5) + (q * (a_lo c)))) (((1 + c) * 6) + c) 1) (((1 + c) * 6) + 5) ((a_lo c) - (a_lo c))), t_ti, (va_up t_lo c (a_lo c)), (va_up t_hi c (a_hi c)), (va_up (va_up t_gl c (-1)) c (((t_nl : Nat) : Int))), (va_up t_sh c 0), t_nl, t_bel, t_far)).2.1) ((addLineT 1 ((va_up (va_up (va_up (va_up t_ce c (q * 1)) 5 (((va_up t_ce c (q * 1)) 5) + (q * (a_lo c)))) (((1 + c) * 6) + c) 1) (((1 + c) * 6) + 5) ((a_lo c) - (a_lo c))), t_ti, (va_up t_lo c (a_lo c)), (va_up t_hi c (a_hi c)), (va_up (va_up t_gl c (-1)) c (((t_nl : Nat) : Int))), (va_up t_sh c 0), t_nl, t_bel, t_far)).2.2.1) ((addLineT 1 ((va_up (va_up (va_up (va_up t_ce c (q * 1)) 5 (((va_up t_ce c (q * 1)) 5) + (q * (a_lo c)))) (((1 + c) * 6) + c) 1) (((1 + c) * 6) + 5) ((a_lo c) - (a_lo c))), t_ti, (va_up t_lo c (a_lo c)), (va_up t_hi c (a_hi c)), (va_up (va_up t_gl c (-1)) c (((t_nl : Nat) : Int))), (va_up t_sh c 0), t_nl, t_bel, t_far)).2.2.2.1) ((addLineT 1 ((va_up (va_up (va_up (va_up t_ce c (q * 1)) 5 (((va_up t_ce c (q * 1)) 5) + (q * (a_lo c)))) (((1 + c) * 6) + c) 1) (((1 + c) * 6) + 5) ((a_lo c) - (a_lo c))), t_ti, (va_up t_lo c (a_lo c)), (va_up t_hi c (a_hi c)), (va_up (va_up t_gl c (-1)) c (((t_nl : Nat) : Int))), (va_up t_sh c 0), t_nl, t_bel, t_far)).2.2.2.2.1) ((addLineT 1 ((va_up (va_up (va_up (va_up t_ce c (q * 1)) 5 (((va_up t_ce c (q * 1)) 5) + (q * (a_lo c)))) (((1 + c) * 6) + c) 1) (((1 + c) * 6) + 5) ((a_lo c) - (a_lo c))), t_ti, (va_up t_lo c (a_lo c)), (va_up t_hi c (a_hi c)), (va_up (va_up t_gl c (-1)) c (((t_nl : Nat) : Int))), (va_up t_sh c 0), t_nl, t_bel, t_far)).2.2.2.2.2.1) (((t_nc : Nat) : Int)) ((((addLineT 1 ((va_up (va_up (va_up (va_up t_ce c (q * 1)) 5 (((va_up t_ce c (q * 1)) 5) + (q * (a_lo c)))) (((1 + c) * 6) + c) 1) (((1 + c) * 6) + 5) ((a_lo c) - (a_lo c))), t_ti, (va_up t_lo c (a_lo c)), (va_up t_hi c (a_hi c)), (va_up (va_up t_gl c (-1)) c (((t_nl : Nat) : Int))), (va_up t_sh c 0), t_nl, t_bel, t_far)).2.2.2.2.2.2.1 : Nat) : Int)) ((addLineT 1 ((va_up (va_up (va_up (va_up t_ce c (q * 1)) 5 (((va_up t_ce c (q * 1)) 5) + (q * (a_lo c)))) (((1 + c) * 6) + c) 1) (((1 + c) * 6) + 5) ((a_lo c) - (a_lo c))), t_ti, (va_up t_lo c (a_lo c)), (va_up t_hi c (a_hi c)), (va_up (va_up t_gl c (-1)) c (((t_nl : Nat) : Int))), (va_up t_sh c 0), t_nl, t_bel, t_far)).2.2.2.2.2.2.2.1) ((addLineT 1 ((va_up (va_up (va_up (va_up t_ce c (q * 1)) 5 (((va_up t_ce c (q * 1)) 5) + (q * (a_lo c)))) (((1 + c) * 6) + c) 1) (((1 + c) * 6) + 5) ((a_lo c) - (a_lo c))), t_ti, (va_up t_lo c (a_lo c)), (va_up t_hi c (a_hi c)), (va_up (va_up t_gl c (-1)) c (((t_nl : Nat) : Int))), (va_up t_sh c 0), t_nl, t_bel, t_far)).2.2.2.2.2.2.2.2) ++ wP cA a (a_kd) (a_lo) (a_hi) (a_co) (a_pa) (a_rk) (a_nu) (a_ct) (a_sa) (((a_nc : Nat) : Int)) (((a_nr : Nat) : Int))) rfl dX5_beginColumn_201 ?_
          exact g_vret F rfl (by decide) (by decide) ⟨rfl, (by unfold bcT startZ wayZ bcC; first | (rw [if_pos (show a_hi c = -2000000005 by omega), if_neg (show ¬ (q < 0 ∧ a_hi c ≠ -2000000005) by omega), if_neg (show ¬ (q < 0 ∧ a_hi c ≠ -2000000005) by omega)] <;> rfl) | (rw [if_neg (show ¬ a_hi c = -2000000005 by omega), if_neg (show ¬ (q < 0 ∧ a_hi c ≠ -2000000005) by omega), if_neg (show ¬ (q < 0 ∧ a_hi c ≠ -2000000005) by omega)] <;> rfl) | (rw [if_neg (show ¬ a_hi c = -2000000005 by omega), if_pos (show q < 0 ∧ a_hi c ≠ -2000000005 by omega), if_pos (show q < 0 ∧ a_hi c ≠ -2000000005 by omega)] <;> rfl))⟩ dX5_beginColumn_202
      · skip
        exfalso; omega
    · skip
      exfalso; omega
  · skip
    refine g_iload F 0 rfl dX5_beginColumn_20 ?_
    refine g_ldc F (-2000000005) (by decide) (List.mem_of_getElem? (i := 3) rfl) dX5_beginColumn_22 ?_
    refine g_icmp_eq F (tgt := 31) dX5_beginColumn_24 (by decide) ⟨by omega, by omega⟩ ⟨by decide, by decide⟩ (fun c_5 => ?_) (fun c_5 => ?_)
    · skip
      refine g_iconst F dX5_beginColumn_31 ?_
      refine g_istore F ([(6, iv (0)), (5, iv (a_hi c)), (4, iv (a_lo c)), (0, .ref (t 0)), (1, .ref (a 0)), (2, iv (((c : Nat) : Int))), (3, iv (q))]) rfl (by decide) dX5_beginColumn_32 ?_
      refine g_iload F 0 rfl dX5_beginColumn_34 ?_
      refine g_if_eq F (tgt := 44) dX5_beginColumn_36 (by decide) ⟨by decide, by decide⟩ (fun c_6 => ?_) (fun c_6 => ?_)
      · skip
        refine g_iload F 2 rfl dX5_beginColumn_44 ?_
        refine g_istore F ([(7, iv (a_lo c)), (6, iv (0)), (5, iv (a_hi c)), (4, iv (a_lo c)), (0, .ref (t 0)), (1, .ref (a 0)), (2, iv (((c : Nat) : Int))), (3, iv (q))]) rfl (by decide) dX5_beginColumn_46 ?_
        refine g_iload F 1 rfl dX5_beginColumn_48 ?_
        refine g_if_eq F (tgt := 57) dX5_beginColumn_50 (by decide) ⟨by decide, by decide⟩ (fun c_7 => ?_) (fun c_7 => ?_)
        · skip
          refine g_iconst F dX5_beginColumn_57 ?_
          refine g_istore F ([(8, iv (1)), (7, iv (a_lo c)), (6, iv (0)), (5, iv (a_hi c)), (4, iv (a_lo c)), (0, .ref (t 0)), (1, .ref (a 0)), (2, iv (((c : Nat) : Int))), (3, iv (q))]) rfl (by decide) dX5_beginColumn_58 ?_
          refine g_aload_n F 5 rfl rfl dX5_beginColumn_60 ?_
          refine g_get F hV iX5 0 rfl rfl 2 (by decide) (List.mem_of_getElem? (i := 4) rfl) rfl dX5_beginColumn_61 ?_
          refine g_iload_n F 7 rfl rfl dX5_beginColumn_64 ?_
          refine g_iload F 4 rfl dX5_beginColumn_65 ?_
          refine g_iast F 3 rfl (c) (by omega) (by omega) (by decide) (wT cA t (t_ce) (t_ti) (va_up t_lo c (a_lo c)) (t_hi) (t_gl) (t_sh) (((t_nc : Nat) : Int)) (((t_nl : Nat) : Int)) (t_bel) (t_far) ++ wP cA a (a_kd) (a_lo) (a_hi) (a_co) (a_pa) (a_rk) (a_nu) (a_ct) (a_sa) (((a_nc : Nat) : Int)) (((a_nr : Nat) : Int))) rfl dX5_beginColumn_67 ?_
          refine g_aload_n F 5 rfl rfl dX5_beginColumn_68 ?_
          refine g_get F hV iX5 0 rfl rfl 3 (by decide) (List.mem_of_getElem? (i := 5) rfl) rfl dX5_beginColumn_69 ?_
          refine g_iload_n F 7 rfl rfl dX5_beginColumn_72 ?_
          refine g_iload F 3 rfl dX5_beginColumn_73 ?_
          refine g_iast F 4 rfl (c) (by omega) (by omega) (by decide) (wT cA t (t_ce) (t_ti) (va_up t_lo c (a_lo c)) (va_up t_hi c (a_hi c)) (t_gl) (t_sh) (((t_nc : Nat) : Int)) (((t_nl : Nat) : Int)) (t_bel) (t_far) ++ wP cA a (a_kd) (a_lo) (a_hi) (a_co) (a_pa) (a_rk) (a_nu) (a_ct) (a_sa) (((a_nc : Nat) : Int)) (((a_nr : Nat) : Int))) rfl dX5_beginColumn_75 ?_
          refine g_aload_n F 5 rfl rfl dX5_beginColumn_76 ?_
          refine g_get F hV iX5 0 rfl rfl 4 (by decide) (List.mem_of_getElem? (i := 6) rfl) rfl dX5_beginColumn_77 ?_
          refine g_iload_n F 7 rfl rfl dX5_beginColumn_80 ?_
          refine g_iconst F dX5_beginColumn_81 ?_
          refine g_iast F 5 rfl (c) (by omega) (by omega) (by decide) (wT cA t (t_ce) (t_ti) (va_up t_lo c (a_lo c)) (va_up t_hi c (a_hi c)) (va_up t_gl c (-1)) (t_sh) (((t_nc : Nat) : Int)) (((t_nl : Nat) : Int)) (t_bel) (t_far) ++ wP cA a (a_kd) (a_lo) (a_hi) (a_co) (a_pa) (a_rk) (a_nu) (a_ct) (a_sa) (((a_nc : Nat) : Int)) (((a_nr : Nat) : Int))) rfl dX5_beginColumn_82 ?_
          refine g_aload_n F 5 rfl rfl dX5_beginColumn_83 ?_
          refine g_get F hV iX5 0 rfl rfl 5 (by decide) (List.mem_of_getElem? (i := 7) rfl) rfl dX5_beginColumn_84 ?_
          refine g_iload_n F 7 rfl rfl dX5_beginColumn_87 ?_
          refine g_iconst F dX5_beginColumn_88 ?_
          refine g_zast F 6 rfl (c) (Or.inl rfl) (by omega) (by omega) (by decide) (wT cA t (t_ce) (t_ti) (va_up t_lo c (a_lo c)) (va_up t_hi c (a_hi c)) (va_up t_gl c (-1)) (va_up t_sh c 0) (((t_nc : Nat) : Int)) (((t_nl : Nat) : Int)) (t_bel) (t_far) ++ wP cA a (a_kd) (a_lo) (a_hi) (a_co) (a_pa) (a_rk) (a_nu) (a_ct) (a_sa) (((a_nc : Nat) : Int)) (((a_nr : Nat) : Int))) rfl dX5_beginColumn_89 ?_
          refine g_aload_n F 5 rfl rfl dX5_beginColumn_90 ?_
          refine g_get F hV iX5 0 rfl rfl 0 (by decide) (List.mem_of_getElem? (i := 8) rfl) rfl dX5_beginColumn_91 ?_
          refine g_iload_n F 7 rfl rfl dX5_beginColumn_94 ?_
          refine g_iload_n F 8 rfl rfl dX5_beginColumn_95 ?_
          refine g_iload F 0 rfl dX5_beginColumn_96 ?_
          refine g_imul F dX5_beginColumn_98 ?_
          refine g_i2l F ⟨by omega, by omega⟩ dX5_beginColumn_99 ?_
          refine g_last F 1 rfl (c) (by omega) (by omega) (by decide) (wT cA t (va_up t_ce c (q * 1)) (t_ti) (va_up t_lo c (a_lo c)) (va_up t_hi c (a_hi c)) (va_up t_gl c (-1)) (va_up t_sh c 0) (((t_nc : Nat) : Int)) (((t_nl : Nat) : Int)) (t_bel) (t_far) ++ wP cA a (a_kd) (a_lo) (a_hi) (a_co) (a_pa) (a_rk) (a_nu) (a_ct) (a_sa) (((a_nc : Nat) : Int)) (((a_nr : Nat) : Int))) rfl dX5_beginColumn_100 ?_
          refine g_aload_n F 5 rfl rfl dX5_beginColumn_101 ?_
          refine g_get F hV iX5 0 rfl rfl 0 (by decide) (List.mem_of_getElem? (i := 8) rfl) rfl dX5_beginColumn_102 ?_
          refine g_iconst F dX5_beginColumn_105 ?_
          refine g_dup2 F rfl rfl dX5_beginColumn_106 ?_
          refine g_lald F hV 1 rfl (5) (by omega) (by omega) (by decide) dX5_beginColumn_107 ?_
          refine g_iload_n F 8 rfl rfl dX5_beginColumn_108 ?_
          refine g_iload F 1 rfl dX5_beginColumn_109 ?_
          refine g_imul F dX5_beginColumn_111 ?_
          refine g_i2l F ⟨by omega, by omega⟩ dX5_beginColumn_112 ?_
          refine g_ladd F dX5_beginColumn_113 ?_
          refine g_last F 1 rfl (5) (by omega) (by omega) (by decide) (wT cA t (va_up (va_up t_ce c (q * 1)) 5 (((va_up t_ce c (q * 1)) 5) + (q * (a_lo c)))) (t_ti) (va_up t_lo c (a_lo c)) (va_up t_hi c (a_hi c)) (va_up t_gl c (-1)) (va_up t_sh c 0) (((t_nc : Nat) : Int)) (((t_nl : Nat) : Int)) (t_bel) (t_far) ++ wP cA a (a_kd) (a_lo) (a_hi) (a_co) (a_pa) (a_rk) (a_nu) (a_ct) (a_sa) (((a_nc : Nat) : Int)) (((a_nr : Nat) : Int))) rfl dX5_beginColumn_114 ?_
          refine g_aload_n F 5 rfl rfl dX5_beginColumn_115 ?_
          refine g_get F hV iX5 0 rfl rfl 0 (by decide) (List.mem_of_getElem? (i := 8) rfl) rfl dX5_beginColumn_116 ?_
          refine g_iconst F dX5_beginColumn_119 ?_
          refine g_iload_n F 7 rfl rfl dX5_beginColumn_120 ?_
          refine g_iadd F dX5_beginColumn_121 ?_
          refine g_bipush F dX5_beginColumn_122 (by decide) ?_
          refine g_imul F dX5_beginColumn_124 ?_
          refine g_iload_n F 7 rfl rfl dX5_beginColumn_125 ?_
          refine g_iadd F dX5_beginColumn_126 ?_
          refine g_iload F 0 rfl dX5_beginColumn_127 ?_
          refine g_i2l F ⟨by decide, by decide⟩ dX5_beginColumn_129 ?_
          refine g_last F 1 rfl (((1 + c) * 6) + c) (by omega) (by omega) (by decide) (wT cA t (va_up (va_up (va_up t_ce c (q * 1)) 5 (((va_up t_ce c (q * 1)) 5) + (q * (a_lo c)))) (((1 + c) * 6) + c) 1) (t_ti) (va_up t_lo c (a_lo c)) (va_up t_hi c (a_hi c)) (va_up t_gl c (-1)) (va_up t_sh c 0) (((t_nc : Nat) : Int)) (((t_nl : Nat) : Int)) (t_bel) (t_far) ++ wP cA a (a_kd) (a_lo) (a_hi) (a_co) (a_pa) (a_rk) (a_nu) (a_ct) (a_sa) (((a_nc : Nat) : Int)) (((a_nr : Nat) : Int))) rfl dX5_beginColumn_130 ?_
          refine g_aload_n F 5 rfl rfl dX5_beginColumn_131 ?_
          refine g_get F hV iX5 0 rfl rfl 0 (by decide) (List.mem_of_getElem? (i := 8) rfl) rfl dX5_beginColumn_132 ?_
          refine g_iconst F dX5_beginColumn_135 ?_
          refine g_iload_n F 7 rfl rfl dX5_beginColumn_136 ?_
          refine g_iadd F dX5_beginColumn_137 ?_
          refine g_bipush F dX5_beginColumn_138 (by decide) ?_
          refine g_imul F dX5_beginColumn_140 ?_
          refine g_iconst F dX5_beginColumn_141 ?_
          refine g_iadd F dX5_beginColumn_142 ?_
          refine g_iload F 1 rfl dX5_beginColumn_143 ?_
          refine g_iload F 4 rfl dX5_beginColumn_145 ?_
          refine g_isub F dX5_beginColumn_147 ?_
          refine g_i2l F ⟨by omega, by omega⟩ dX5_beginColumn_148 ?_
          refine g_last F 1 rfl (((1 + c) * 6) + 5) (by omega) (by omega) (by decide) (wT cA t (va_up (va_up (va_up (va_up t_ce c (q * 1)) 5 (((va_up t_ce c (q * 1)) 5) + (q * (a_lo c)))) (((1 + c) * 6) + c) 1) (((1 + c) * 6) + 5) ((a_lo c) - (a_lo c))) (t_ti) (va_up t_lo c (a_lo c)) (va_up t_hi c (a_hi c)) (va_up t_gl c (-1)) (va_up t_sh c 0) (((t_nc : Nat) : Int)) (((t_nl : Nat) : Int)) (t_bel) (t_far) ++ wP cA a (a_kd) (a_lo) (a_hi) (a_co) (a_pa) (a_rk) (a_nu) (a_ct) (a_sa) (((a_nc : Nat) : Int)) (((a_nr : Nat) : Int))) rfl dX5_beginColumn_149 ?_
          refine g_iload F 3 rfl dX5_beginColumn_150 ?_
          refine g_ldc F (-2000000005) (by decide) (List.mem_of_getElem? (i := 3) rfl) dX5_beginColumn_152 ?_
          refine g_icmp_eq F (tgt := 202) dX5_beginColumn_154 (by decide) ⟨by omega, by omega⟩ ⟨by decide, by decide⟩ (fun c_8 => ?_) (fun c_8 => ?_)
          · skip
            exact g_vret F rfl (by decide) (by decide) ⟨rfl, (by unfold bcT startZ wayZ bcC; first | (rw [if_pos (show a_hi c = -2000000005 by omega), if_neg (show ¬ (q < 0 ∧ a_hi c ≠ -2000000005) by omega), if_neg (show ¬ (q < 0 ∧ a_hi c ≠ -2000000005) by omega)] <;> rfl) | (rw [if_neg (show ¬ a_hi c = -2000000005 by omega), if_neg (show ¬ (q < 0 ∧ a_hi c ≠ -2000000005) by omega), if_neg (show ¬ (q < 0 ∧ a_hi c ≠ -2000000005) by omega)] <;> rfl) | (rw [if_neg (show ¬ a_hi c = -2000000005 by omega), if_pos (show q < 0 ∧ a_hi c ≠ -2000000005 by omega), if_pos (show q < 0 ∧ a_hi c ≠ -2000000005 by omega)] <;> rfl))⟩ dX5_beginColumn_202
          · skip
            exfalso; omega
        · skip
          exfalso; omega
      · skip
        exfalso; omega
    · skip
      refine g_iconst F dX5_beginColumn_27 ?_
      refine g_goto F (tgt := 32) dX5_beginColumn_28 (by decide) ?_
      refine g_istore F ([(6, iv (1)), (5, iv (a_hi c)), (4, iv (a_lo c)), (0, .ref (t 0)), (1, .ref (a 0)), (2, iv (((c : Nat) : Int))), (3, iv (q))]) rfl (by decide) dX5_beginColumn_32 ?_
      refine g_iload F 0 rfl dX5_beginColumn_34 ?_
      refine g_if_eq F (tgt := 44) dX5_beginColumn_36 (by decide) ⟨by decide, by decide⟩ (fun c_9 => ?_) (fun c_9 => ?_)
      · skip
        exfalso; omega
      · skip
        refine g_iload F 1 rfl dX5_beginColumn_39 ?_
        refine g_goto F (tgt := 46) dX5_beginColumn_41 (by decide) ?_
        refine g_istore F ([(7, iv (a_hi c)), (6, iv (1)), (5, iv (a_hi c)), (4, iv (a_lo c)), (0, .ref (t 0)), (1, .ref (a 0)), (2, iv (((c : Nat) : Int))), (3, iv (q))]) rfl (by decide) dX5_beginColumn_46 ?_
        refine g_iload F 1 rfl dX5_beginColumn_48 ?_
        refine g_if_eq F (tgt := 57) dX5_beginColumn_50 (by decide) ⟨by decide, by decide⟩ (fun c_10 => ?_) (fun c_10 => ?_)
        · skip
          exfalso; omega
        · skip
          refine g_iconst F dX5_beginColumn_53 ?_
          refine g_goto F (tgt := 58) dX5_beginColumn_54 (by decide) ?_
          refine g_istore F ([(8, iv (-1)), (7, iv (a_hi c)), (6, iv (1)), (5, iv (a_hi c)), (4, iv (a_lo c)), (0, .ref (t 0)), (1, .ref (a 0)), (2, iv (((c : Nat) : Int))), (3, iv (q))]) rfl (by decide) dX5_beginColumn_58 ?_
          refine g_aload_n F 5 rfl rfl dX5_beginColumn_60 ?_
          refine g_get F hV iX5 0 rfl rfl 2 (by decide) (List.mem_of_getElem? (i := 4) rfl) rfl dX5_beginColumn_61 ?_
          refine g_iload_n F 7 rfl rfl dX5_beginColumn_64 ?_
          refine g_iload F 4 rfl dX5_beginColumn_65 ?_
          refine g_iast F 3 rfl (c) (by omega) (by omega) (by decide) (wT cA t (t_ce) (t_ti) (va_up t_lo c (a_lo c)) (t_hi) (t_gl) (t_sh) (((t_nc : Nat) : Int)) (((t_nl : Nat) : Int)) (t_bel) (t_far) ++ wP cA a (a_kd) (a_lo) (a_hi) (a_co) (a_pa) (a_rk) (a_nu) (a_ct) (a_sa) (((a_nc : Nat) : Int)) (((a_nr : Nat) : Int))) rfl dX5_beginColumn_67 ?_
          refine g_aload_n F 5 rfl rfl dX5_beginColumn_68 ?_
          refine g_get F hV iX5 0 rfl rfl 3 (by decide) (List.mem_of_getElem? (i := 5) rfl) rfl dX5_beginColumn_69 ?_
          refine g_iload_n F 7 rfl rfl dX5_beginColumn_72 ?_
          refine g_iload F 3 rfl dX5_beginColumn_73 ?_
          refine g_iast F 4 rfl (c) (by omega) (by omega) (by decide) (wT cA t (t_ce) (t_ti) (va_up t_lo c (a_lo c)) (va_up t_hi c (a_hi c)) (t_gl) (t_sh) (((t_nc : Nat) : Int)) (((t_nl : Nat) : Int)) (t_bel) (t_far) ++ wP cA a (a_kd) (a_lo) (a_hi) (a_co) (a_pa) (a_rk) (a_nu) (a_ct) (a_sa) (((a_nc : Nat) : Int)) (((a_nr : Nat) : Int))) rfl dX5_beginColumn_75 ?_
          refine g_aload_n F 5 rfl rfl dX5_beginColumn_76 ?_
          refine g_get F hV iX5 0 rfl rfl 4 (by decide) (List.mem_of_getElem? (i := 6) rfl) rfl dX5_beginColumn_77 ?_
          refine g_iload_n F 7 rfl rfl dX5_beginColumn_80 ?_
          refine g_iconst F dX5_beginColumn_81 ?_
          refine g_iast F 5 rfl (c) (by omega) (by omega) (by decide) (wT cA t (t_ce) (t_ti) (va_up t_lo c (a_lo c)) (va_up t_hi c (a_hi c)) (va_up t_gl c (-1)) (t_sh) (((t_nc : Nat) : Int)) (((t_nl : Nat) : Int)) (t_bel) (t_far) ++ wP cA a (a_kd) (a_lo) (a_hi) (a_co) (a_pa) (a_rk) (a_nu) (a_ct) (a_sa) (((a_nc : Nat) : Int)) (((a_nr : Nat) : Int))) rfl dX5_beginColumn_82 ?_
          refine g_aload_n F 5 rfl rfl dX5_beginColumn_83 ?_
          refine g_get F hV iX5 0 rfl rfl 5 (by decide) (List.mem_of_getElem? (i := 7) rfl) rfl dX5_beginColumn_84 ?_
          refine g_iload_n F 7 rfl rfl dX5_beginColumn_87 ?_
          refine g_iconst F dX5_beginColumn_88 ?_
          refine g_zast F 6 rfl (c) (Or.inl rfl) (by omega) (by omega) (by decide) (wT cA t (t_ce) (t_ti) (va_up t_lo c (a_lo c)) (va_up t_hi c (a_hi c)) (va_up t_gl c (-1)) (va_up t_sh c 0) (((t_nc : Nat) : Int)) (((t_nl : Nat) : Int)) (t_bel) (t_far) ++ wP cA a (a_kd) (a_lo) (a_hi) (a_co) (a_pa) (a_rk) (a_nu) (a_ct) (a_sa) (((a_nc : Nat) : Int)) (((a_nr : Nat) : Int))) rfl dX5_beginColumn_89 ?_
          refine g_aload_n F 5 rfl rfl dX5_beginColumn_90 ?_
          refine g_get F hV iX5 0 rfl rfl 0 (by decide) (List.mem_of_getElem? (i := 8) rfl) rfl dX5_beginColumn_91 ?_
          refine g_iload_n F 7 rfl rfl dX5_beginColumn_94 ?_
          refine g_iload_n F 8 rfl rfl dX5_beginColumn_95 ?_
          refine g_iload F 0 rfl dX5_beginColumn_96 ?_
          refine g_imul F dX5_beginColumn_98 ?_
          refine g_i2l F ⟨by omega, by omega⟩ dX5_beginColumn_99 ?_
          refine g_last F 1 rfl (c) (by omega) (by omega) (by decide) (wT cA t (va_up t_ce c (q * (-1))) (t_ti) (va_up t_lo c (a_lo c)) (va_up t_hi c (a_hi c)) (va_up t_gl c (-1)) (va_up t_sh c 0) (((t_nc : Nat) : Int)) (((t_nl : Nat) : Int)) (t_bel) (t_far) ++ wP cA a (a_kd) (a_lo) (a_hi) (a_co) (a_pa) (a_rk) (a_nu) (a_ct) (a_sa) (((a_nc : Nat) : Int)) (((a_nr : Nat) : Int))) rfl dX5_beginColumn_100 ?_
          refine g_aload_n F 5 rfl rfl dX5_beginColumn_101 ?_
          refine g_get F hV iX5 0 rfl rfl 0 (by decide) (List.mem_of_getElem? (i := 8) rfl) rfl dX5_beginColumn_102 ?_
          refine g_iconst F dX5_beginColumn_105 ?_
          refine g_dup2 F rfl rfl dX5_beginColumn_106 ?_
          refine g_lald F hV 1 rfl (5) (by omega) (by omega) (by decide) dX5_beginColumn_107 ?_
          refine g_iload_n F 8 rfl rfl dX5_beginColumn_108 ?_
          refine g_iload F 1 rfl dX5_beginColumn_109 ?_
          refine g_imul F dX5_beginColumn_111 ?_
          refine g_i2l F ⟨by omega, by omega⟩ dX5_beginColumn_112 ?_
          refine g_ladd F dX5_beginColumn_113 ?_
          refine g_last F 1 rfl (5) (by omega) (by omega) (by decide) (wT cA t (va_up (va_up t_ce c (q * (-1))) 5 (((va_up t_ce c (q * (-1))) 5) + (q * (a_hi c)))) (t_ti) (va_up t_lo c (a_lo c)) (va_up t_hi c (a_hi c)) (va_up t_gl c (-1)) (va_up t_sh c 0) (((t_nc : Nat) : Int)) (((t_nl : Nat) : Int)) (t_bel) (t_far) ++ wP cA a (a_kd) (a_lo) (a_hi) (a_co) (a_pa) (a_rk) (a_nu) (a_ct) (a_sa) (((a_nc : Nat) : Int)) (((a_nr : Nat) : Int))) rfl dX5_beginColumn_114 ?_
          refine g_aload_n F 5 rfl rfl dX5_beginColumn_115 ?_
          refine g_get F hV iX5 0 rfl rfl 0 (by decide) (List.mem_of_getElem? (i := 8) rfl) rfl dX5_beginColumn_116 ?_
          refine g_iconst F dX5_beginColumn_119 ?_
          refine g_iload_n F 7 rfl rfl dX5_beginColumn_120 ?_
          refine g_iadd F dX5_beginColumn_121 ?_
          refine g_bipush F dX5_beginColumn_122 (by decide) ?_
          refine g_imul F dX5_beginColumn_124 ?_
          refine g_iload_n F 7 rfl rfl dX5_beginColumn_125 ?_
          refine g_iadd F dX5_beginColumn_126 ?_
          refine g_iload F 0 rfl dX5_beginColumn_127 ?_
          refine g_i2l F ⟨by decide, by decide⟩ dX5_beginColumn_129 ?_
          refine g_last F 1 rfl (((1 + c) * 6) + c) (by omega) (by omega) (by decide) (wT cA t (va_up (va_up (va_up t_ce c (q * (-1))) 5 (((va_up t_ce c (q * (-1))) 5) + (q * (a_hi c)))) (((1 + c) * 6) + c) (-1)) (t_ti) (va_up t_lo c (a_lo c)) (va_up t_hi c (a_hi c)) (va_up t_gl c (-1)) (va_up t_sh c 0) (((t_nc : Nat) : Int)) (((t_nl : Nat) : Int)) (t_bel) (t_far) ++ wP cA a (a_kd) (a_lo) (a_hi) (a_co) (a_pa) (a_rk) (a_nu) (a_ct) (a_sa) (((a_nc : Nat) : Int)) (((a_nr : Nat) : Int))) rfl dX5_beginColumn_130 ?_
          refine g_aload_n F 5 rfl rfl dX5_beginColumn_131 ?_
          refine g_get F hV iX5 0 rfl rfl 0 (by decide) (List.mem_of_getElem? (i := 8) rfl) rfl dX5_beginColumn_132 ?_
          refine g_iconst F dX5_beginColumn_135 ?_
          refine g_iload_n F 7 rfl rfl dX5_beginColumn_136 ?_
          refine g_iadd F dX5_beginColumn_137 ?_
          refine g_bipush F dX5_beginColumn_138 (by decide) ?_
          refine g_imul F dX5_beginColumn_140 ?_
          refine g_iconst F dX5_beginColumn_141 ?_
          refine g_iadd F dX5_beginColumn_142 ?_
          refine g_iload F 1 rfl dX5_beginColumn_143 ?_
          refine g_iload F 4 rfl dX5_beginColumn_145 ?_
          refine g_isub F dX5_beginColumn_147 ?_
          refine g_i2l F ⟨by omega, by omega⟩ dX5_beginColumn_148 ?_
          refine g_last F 1 rfl (((1 + c) * 6) + 5) (by omega) (by omega) (by decide) (wT cA t (va_up (va_up (va_up (va_up t_ce c (q * (-1))) 5 (((va_up t_ce c (q * (-1))) 5) + (q * (a_hi c)))) (((1 + c) * 6) + c) (-1)) (((1 + c) * 6) + 5) ((a_hi c) - (a_lo c))) (t_ti) (va_up t_lo c (a_lo c)) (va_up t_hi c (a_hi c)) (va_up t_gl c (-1)) (va_up t_sh c 0) (((t_nc : Nat) : Int)) (((t_nl : Nat) : Int)) (t_bel) (t_far) ++ wP cA a (a_kd) (a_lo) (a_hi) (a_co) (a_pa) (a_rk) (a_nu) (a_ct) (a_sa) (((a_nc : Nat) : Int)) (((a_nr : Nat) : Int))) rfl dX5_beginColumn_149 ?_
          refine g_iload F 3 rfl dX5_beginColumn_150 ?_
          refine g_ldc F (-2000000005) (by decide) (List.mem_of_getElem? (i := 3) rfl) dX5_beginColumn_152 ?_
          refine g_icmp_eq F (tgt := 202) dX5_beginColumn_154 (by decide) ⟨by omega, by omega⟩ ⟨by decide, by decide⟩ (fun c_11 => ?_) (fun c_11 => ?_)
          · skip
            exfalso; omega
          · skip
            refine g_aload_n F 5 rfl rfl dX5_beginColumn_157 ?_
            refine g_get F hV iX5 0 rfl rfl 4 (by decide) (List.mem_of_getElem? (i := 6) rfl) rfl dX5_beginColumn_158 ?_
            refine g_iload_n F 7 rfl rfl dX5_beginColumn_161 ?_
            refine g_aload_n F 5 rfl rfl dX5_beginColumn_162 ?_
            refine g_get F hV iX5 0 rfl rfl 7 (by decide) (List.mem_of_getElem? (i := 9) rfl) rfl dX5_beginColumn_163 ?_
            refine g_iast F 5 rfl (c) (by omega) (by omega) (by decide) (wT cA t (va_up (va_up (va_up (va_up t_ce c (q * (-1))) 5 (((va_up t_ce c (q * (-1))) 5) + (q * (a_hi c)))) (((1 + c) * 6) + c) (-1)) (((1 + c) * 6) + 5) ((a_hi c) - (a_lo c))) (t_ti) (va_up t_lo c (a_lo c)) (va_up t_hi c (a_hi c)) (va_up (va_up t_gl c (-1)) c (((t_nl : Nat) : Int))) (va_up t_sh c 0) (((t_nc : Nat) : Int)) (((t_nl : Nat) : Int)) (t_bel) (t_far) ++ wP cA a (a_kd) (a_lo) (a_hi) (a_co) (a_pa) (a_rk) (a_nu) (a_ct) (a_sa) (((a_nc : Nat) : Int)) (((a_nr : Nat) : Int))) rfl dX5_beginColumn_166 ?_
            refine g_aload_n F 5 rfl rfl dX5_beginColumn_167 ?_
            refine g_iconst F dX5_beginColumn_168 ?_
            refine g_callV F (As := [iv (1)]) (rest := []) (wr := wP cA a (a_kd) (a_lo) (a_hi) (a_co) (a_pa) (a_rk) (a_nu) (a_ct) (a_sa) (((a_nc : Nat) : Int)) (((a_nr : Nat) : Int))) (kX5_addLine l D cA t (va_up (va_up (va_up (va_up t_ce c (q * (-1))) 5 (((va_up t_ce c (q * (-1))) 5) + (q * (a_hi c)))) (((1 + c) * 6) + c) (-1)) (((1 + c) * 6) + 5) ((a_hi c) - (a_lo c))) t_ti (va_up t_lo c (a_lo c)) (va_up t_hi c (a_hi c)) (va_up (va_up t_gl c (-1)) c (((t_nl : Nat) : Int))) (va_up t_sh c 0) t_nc t_nl t_bel t_far 1 (hnl) (by omega)) (cwV 1 F.2.2.2.2.1 gX5_beginColumn_X5_addLine rfl rfl rfl (by decide +kernel) ⟨Nat.le_of_ble_eq_true rfl, Nat.le_of_ble_eq_true rfl⟩) rfl rfl (q0 := 0) rfl [0, 1, 2, 3, 4, 5, 6] [7, 8, 9, 10, 11, 12, 13, 14, 15, 16] rfl rfl (by decide) (by decide) (by decide) rfl rfl (Nat.le_of_ble_eq_true rfl) ⟨Nat.le_of_ble_eq_true rfl, Nat.le_of_ble_eq_true rfl⟩ hA dX5_beginColumn_169 (fun v w hv => ?_)
            obtain ⟨hv, hw⟩ := hv
            subst hv
            subst hw
            refine g_wsub (wT cA t ((addLineT 1 ((va_up (va_up (va_up (va_up t_ce c (q * (-1))) 5 (((va_up t_ce c (q * (-1))) 5) + (q * (a_hi c)))) (((1 + c) * 6) + c) (-1)) (((1 + c) * 6) + 5) ((a_hi c) - (a_lo c))), t_ti, (va_up t_lo c (a_lo c)), (va_up t_hi c (a_hi c)), (va_up (va_up t_gl c (-1)) c (((t_nl : Nat) : Int))), (va_up t_sh c 0), t_nl, t_bel, t_far)).1) ((addLineT 1 ((va_up (va_up (va_up (va_up t_ce c (q * (-1))) 5 (((va_up t_ce c (q * (-1))) 5) + (q * (a_hi c)))) (((1 + c) * 6) + c) (-1)) (((1 + c) * 6) + 5) ((a_hi c) - (a_lo c))), t_ti, (va_up t_lo c (a_lo c)), (va_up t_hi c (a_hi c)), (va_up (va_up t_gl c (-1)) c (((t_nl : Nat) : Int))), (va_up t_sh c 0), t_nl, t_bel, t_far)).2.1) ((addLineT 1 ((va_up (va_up (va_up (va_up t_ce c (q * (-1))) 5 (((va_up t_ce c (q * (-1))) 5) + (q * (a_hi c)))) (((1 + c) * 6) + c) (-1)) (((1 + c) * 6) + 5) ((a_hi c) - (a_lo c))), t_ti, (va_up t_lo c (a_lo c)), (va_up t_hi c (a_hi c)), (va_up (va_up t_gl c (-1)) c (((t_nl : Nat) : Int))), (va_up t_sh c 0), t_nl, t_bel, t_far)).2.2.1) ((addLineT 1 ((va_up (va_up (va_up (va_up t_ce c (q * (-1))) 5 (((va_up t_ce c (q * (-1))) 5) + (q * (a_hi c)))) (((1 + c) * 6) + c) (-1)) (((1 + c) * 6) + 5) ((a_hi c) - (a_lo c))), t_ti, (va_up t_lo c (a_lo c)), (va_up t_hi c (a_hi c)), (va_up (va_up t_gl c (-1)) c (((t_nl : Nat) : Int))), (va_up t_sh c 0), t_nl, t_bel, t_far)).2.2.2.1) ((addLineT 1 ((va_up (va_up (va_up (va_up t_ce c (q * (-1))) 5 (((va_up t_ce c (q * (-1))) 5) + (q * (a_hi c)))) (((1 + c) * 6) + c) (-1)) (((1 + c) * 6) + 5) ((a_hi c) - (a_lo c))), t_ti, (va_up t_lo c (a_lo c)), (va_up t_hi c (a_hi c)), (va_up (va_up t_gl c (-1)) c (((t_nl : Nat) : Int))), (va_up t_sh c 0), t_nl, t_bel, t_far)).2.2.2.2.1) ((addLineT 1 ((va_up (va_up (va_up (va_up t_ce c (q * (-1))) 5 (((va_up t_ce c (q * (-1))) 5) + (q * (a_hi c)))) (((1 + c) * 6) + c) (-1)) (((1 + c) * 6) + 5) ((a_hi c) - (a_lo c))), t_ti, (va_up t_lo c (a_lo c)), (va_up t_hi c (a_hi c)), (va_up (va_up t_gl c (-1)) c (((t_nl : Nat) : Int))), (va_up t_sh c 0), t_nl, t_bel, t_far)).2.2.2.2.2.1) (((t_nc : Nat) : Int)) ((((addLineT 1 ((va_up (va_up (va_up (va_up t_ce c (q * (-1))) 5 (((va_up t_ce c (q * (-1))) 5) + (q * (a_hi c)))) (((1 + c) * 6) + c) (-1)) (((1 + c) * 6) + 5) ((a_hi c) - (a_lo c))), t_ti, (va_up t_lo c (a_lo c)), (va_up t_hi c (a_hi c)), (va_up (va_up t_gl c (-1)) c (((t_nl : Nat) : Int))), (va_up t_sh c 0), t_nl, t_bel, t_far)).2.2.2.2.2.2.1 : Nat) : Int)) ((addLineT 1 ((va_up (va_up (va_up (va_up t_ce c (q * (-1))) 5 (((va_up t_ce c (q * (-1))) 5) + (q * (a_hi c)))) (((1 + c) * 6) + c) (-1)) (((1 + c) * 6) + 5) ((a_hi c) - (a_lo c))), t_ti, (va_up t_lo c (a_lo c)), (va_up t_hi c (a_hi c)), (va_up (va_up t_gl c (-1)) c (((t_nl : Nat) : Int))), (va_up t_sh c 0), t_nl, t_bel, t_far)).2.2.2.2.2.2.2.1) ((addLineT 1 ((va_up (va_up (va_up (va_up t_ce c (q * (-1))) 5 (((va_up t_ce c (q * (-1))) 5) + (q * (a_hi c)))) (((1 + c) * 6) + c) (-1)) (((1 + c) * 6) + 5) ((a_hi c) - (a_lo c))), t_ti, (va_up t_lo c (a_lo c)), (va_up t_hi c (a_hi c)), (va_up (va_up t_gl c (-1)) c (((t_nl : Nat) : Int))), (va_up t_sh c 0), t_nl, t_bel, t_far)).2.2.2.2.2.2.2.2) ++ wP cA a (a_kd) (a_lo) (a_hi) (a_co) (a_pa) (a_rk) (a_nu) (a_ct) (a_sa) (((a_nc : Nat) : Int)) (((a_nr : Nat) : Int))) [10, 11, 12, 13, 14, 15, 16, 0, 1, 2, 3, 4, 5, 6, 7, 8, 9] (by decide) rfl ?_
            refine g_eq (st' := [iv (((t_nl * 6 : Nat) : Int))]) rfl rfl rfl ?_
            refine g_istore F ([(9, iv (((t_nl * 6 : Nat) : Int))), (8, iv (-1)), (7, iv (a_hi c)), (6, iv (1)), (5, iv (a_hi c)), (4, iv (a_lo c)), (0, .ref (t 0)), (1, .ref (a 0)), (2, iv (((c : Nat) : Int))), (3, iv (q))]) rfl (by decide) dX5_beginColumn_172 ?_
            refine g_aload_n F 6 rfl rfl dX5_beginColumn_174 ?_
            refine g_get F hV iX5 0 rfl rfl 0 (by decide) (List.mem_of_getElem? (i := 8) rfl) rfl dX5_beginColumn_175 ?_
            refine g_iload F 0 rfl dX5_beginColumn_178 ?_
            refine g_iload_n F 8 rfl rfl dX5_beginColumn_180 ?_
            refine g_iadd F dX5_beginColumn_181 ?_
            refine g_iload F 1 rfl dX5_beginColumn_182 ?_
            refine g_ineg F dX5_beginColumn_184 ?_
            refine g_i2l F ⟨by omega, by omega⟩ dX5_beginColumn_185 ?_
            refine g_last F 1 rfl ((t_nl * 6) + c) (by omega) (by omega) (by decide) (wT cA t (va_up ((addLineT 1 ((va_up (va_up (va_up (va_up t_ce c (q * (-1))) 5 (((va_up t_ce c (q * (-1))) 5) + (q * (a_hi c)))) (((1 + c) * 6) + c) (-1)) (((1 + c) * 6) + 5) ((a_hi c) - (a_lo c))), t_ti, (va_up t_lo c (a_lo c)), (va_up t_hi c (a_hi c)), (va_up (va_up t_gl c (-1)) c (((t_nl : Nat) : Int))), (va_up t_sh c 0), t_nl, t_bel, t_far)).1) ((t_nl * 6) + c) (-(-1))) ((addLineT 1 ((va_up (va_up (va_up (va_up t_ce c (q * (-1))) 5 (((va_up t_ce c (q * (-1))) 5) + (q * (a_hi c)))) (((1 + c) * 6) + c) (-1)) (((1 + c) * 6) + 5) ((a_hi c) - (a_lo c))), t_ti, (va_up t_lo c (a_lo c)), (va_up t_hi c (a_hi c)), (va_up (va_up t_gl c (-1)) c (((t_nl : Nat) : Int))), (va_up t_sh c 0), t_nl, t_bel, t_far)).2.1) ((addLineT 1 ((va_up (va_up (va_up (va_up t_ce c (q * (-1))) 5 (((va_up t_ce c (q * (-1))) 5) + (q * (a_hi c)))) (((1 + c) * 6) + c) (-1)) (((1 + c) * 6) + 5) ((a_hi c) - (a_lo c))), t_ti, (va_up t_lo c (a_lo c)), (va_up t_hi c (a_hi c)), (va_up (va_up t_gl c (-1)) c (((t_nl : Nat) : Int))), (va_up t_sh c 0), t_nl, t_bel, t_far)).2.2.1) ((addLineT 1 ((va_up (va_up (va_up (va_up t_ce c (q * (-1))) 5 (((va_up t_ce c (q * (-1))) 5) + (q * (a_hi c)))) (((1 + c) * 6) + c) (-1)) (((1 + c) * 6) + 5) ((a_hi c) - (a_lo c))), t_ti, (va_up t_lo c (a_lo c)), (va_up t_hi c (a_hi c)), (va_up (va_up t_gl c (-1)) c (((t_nl : Nat) : Int))), (va_up t_sh c 0), t_nl, t_bel, t_far)).2.2.2.1) ((addLineT 1 ((va_up (va_up (va_up (va_up t_ce c (q * (-1))) 5 (((va_up t_ce c (q * (-1))) 5) + (q * (a_hi c)))) (((1 + c) * 6) + c) (-1)) (((1 + c) * 6) + 5) ((a_hi c) - (a_lo c))), t_ti, (va_up t_lo c (a_lo c)), (va_up t_hi c (a_hi c)), (va_up (va_up t_gl c (-1)) c (((t_nl : Nat) : Int))), (va_up t_sh c 0), t_nl, t_bel, t_far)).2.2.2.2.1) ((addLineT 1 ((va_up (va_up (va_up (va_up t_ce c (q * (-1))) 5 (((va_up t_ce c (q * (-1))) 5) + (q * (a_hi c)))) (((1 + c) * 6) + c) (-1)) (((1 + c) * 6) + 5) ((a_hi c) - (a_lo c))), t_ti, (va_up t_lo c (a_lo c)), (va_up t_hi c (a_hi c)), (va_up (va_up t_gl c (-1)) c (((t_nl : Nat) : Int))), (va_up t_sh c 0), t_nl, t_bel, t_far)).2.2.2.2.2.1) (((t_nc : Nat) : Int)) ((((addLineT 1 ((va_up (va_up (va_up (va_up t_ce c (q * (-1))) 5 (((va_up t_ce c (q * (-1))) 5) + (q * (a_hi c)))) (((1 + c) * 6) + c) (-1)) (((1 + c) * 6) + 5) ((a_hi c) - (a_lo c))), t_ti, (va_up t_lo c (a_lo c)), (va_up t_hi c (a_hi c)), (va_up (va_up t_gl c (-1)) c (((t_nl : Nat) : Int))), (va_up t_sh c 0), t_nl, t_bel, t_far)).2.2.2.2.2.2.1 : Nat) : Int)) ((addLineT 1 ((va_up (va_up (va_up (va_up t_ce c (q * (-1))) 5 (((va_up t_ce c (q * (-1))) 5) + (q * (a_hi c)))) (((1 + c) * 6) + c) (-1)) (((1 + c) * 6) + 5) ((a_hi c) - (a_lo c))), t_ti, (va_up t_lo c (a_lo c)), (va_up t_hi c (a_hi c)), (va_up (va_up t_gl c (-1)) c (((t_nl : Nat) : Int))), (va_up t_sh c 0), t_nl, t_bel, t_far)).2.2.2.2.2.2.2.1) ((addLineT 1 ((va_up (va_up (va_up (va_up t_ce c (q * (-1))) 5 (((va_up t_ce c (q * (-1))) 5) + (q * (a_hi c)))) (((1 + c) * 6) + c) (-1)) (((1 + c) * 6) + 5) ((a_hi c) - (a_lo c))), t_ti, (va_up t_lo c (a_lo c)), (va_up t_hi c (a_hi c)), (va_up (va_up t_gl c (-1)) c (((t_nl : Nat) : Int))), (va_up t_sh c 0), t_nl, t_bel, t_far)).2.2.2.2.2.2.2.2) ++ wP cA a (a_kd) (a_lo) (a_hi) (a_co) (a_pa) (a_rk) (a_nu) (a_ct) (a_sa) (((a_nc : Nat) : Int)) (((a_nr : Nat) : Int))) rfl dX5_beginColumn_186 ?_
            refine g_aload_n F 6 rfl rfl dX5_beginColumn_187 ?_
            refine g_get F hV iX5 0 rfl rfl 0 (by decide) (List.mem_of_getElem? (i := 8) rfl) rfl dX5_beginColumn_188 ?_
            refine g_iload F 0 rfl dX5_beginColumn_191 ?_
            refine g_iconst F dX5_beginColumn_193 ?_
            refine g_iadd F dX5_beginColumn_194 ?_
            refine g_iload F 4 rfl dX5_beginColumn_195 ?_
            refine g_iload F 2 rfl dX5_beginColumn_197 ?_
            refine g_isub F dX5_beginColumn_199 ?_
            refine g_i2l F ⟨by omega, by omega⟩ dX5_beginColumn_200 ?_
            refine g_last F 1 rfl ((t_nl * 6) + 5) (by omega) (by omega) (by decide) (wT cA t (va_up (va_up ((addLineT 1 ((va_up (va_up (va_up (va_up t_ce c (q * (-1))) 5 (((va_up t_ce c (q * (-1))) 5) + (q * (a_hi c)))) (((1 + c) * 6) + c) (-1)) (((1 + c) * 6) + 5) ((a_hi c) - (a_lo c))), t_ti, (va_up t_lo c (a_lo c)), (va_up t_hi c (a_hi c)), (va_up (va_up t_gl c (-1)) c (((t_nl : Nat) : Int))), (va_up t_sh c 0), t_nl, t_bel, t_far)).1) ((t_nl * 6) + c) (-(-1))) ((t_nl * 6) + 5) ((a_hi c) - (a_hi c))) ((addLineT 1 ((va_up (va_up (va_up (va_up t_ce c (q * (-1))) 5 (((va_up t_ce c (q * (-1))) 5) + (q * (a_hi c)))) (((1 + c) * 6) + c) (-1)) (((1 + c) * 6) + 5) ((a_hi c) - (a_lo c))), t_ti, (va_up t_lo c (a_lo c)), (va_up t_hi c (a_hi c)), (va_up (va_up t_gl c (-1)) c (((t_nl : Nat) : Int))), (va_up t_sh c 0), t_nl, t_bel, t_far)).2.1) ((addLineT 1 ((va_up (va_up (va_up (va_up t_ce c (q * (-1))) 5 (((va_up t_ce c (q * (-1))) 5) + (q * (a_hi c)))) (((1 + c) * 6) + c) (-1)) (((1 + c) * 6) + 5) ((a_hi c) - (a_lo c))), t_ti, (va_up t_lo c (a_lo c)), (va_up t_hi c (a_hi c)), (va_up (va_up t_gl c (-1)) c (((t_nl : Nat) : Int))), (va_up t_sh c 0), t_nl, t_bel, t_far)).2.2.1) ((addLineT 1 ((va_up (va_up (va_up (va_up t_ce c (q * (-1))) 5 (((va_up t_ce c (q * (-1))) 5) + (q * (a_hi c)))) (((1 + c) * 6) + c) (-1)) (((1 + c) * 6) + 5) ((a_hi c) - (a_lo c))), t_ti, (va_up t_lo c (a_lo c)), (va_up t_hi c (a_hi c)), (va_up (va_up t_gl c (-1)) c (((t_nl : Nat) : Int))), (va_up t_sh c 0), t_nl, t_bel, t_far)).2.2.2.1) ((addLineT 1 ((va_up (va_up (va_up (va_up t_ce c (q * (-1))) 5 (((va_up t_ce c (q * (-1))) 5) + (q * (a_hi c)))) (((1 + c) * 6) + c) (-1)) (((1 + c) * 6) + 5) ((a_hi c) - (a_lo c))), t_ti, (va_up t_lo c (a_lo c)), (va_up t_hi c (a_hi c)), (va_up (va_up t_gl c (-1)) c (((t_nl : Nat) : Int))), (va_up t_sh c 0), t_nl, t_bel, t_far)).2.2.2.2.1) ((addLineT 1 ((va_up (va_up (va_up (va_up t_ce c (q * (-1))) 5 (((va_up t_ce c (q * (-1))) 5) + (q * (a_hi c)))) (((1 + c) * 6) + c) (-1)) (((1 + c) * 6) + 5) ((a_hi c) - (a_lo c))), t_ti, (va_up t_lo c (a_lo c)), (va_up t_hi c (a_hi c)), (va_up (va_up t_gl c (-1)) c (((t_nl : Nat) : Int))), (va_up t_sh c 0), t_nl, t_bel, t_far)).2.2.2.2.2.1) (((t_nc : Nat) : Int)) ((((addLineT 1 ((va_up (va_up (va_up (va_up t_ce c (q * (-1))) 5 (((va_up t_ce c (q * (-1))) 5) + (q * (a_hi c)))) (((1 + c) * 6) + c) (-1)) (((1 + c) * 6) + 5) ((a_hi c) - (a_lo c))), t_ti, (va_up t_lo c (a_lo c)), (va_up t_hi c (a_hi c)), (va_up (va_up t_gl c (-1)) c (((t_nl : Nat) : Int))), (va_up t_sh c 0), t_nl, t_bel, t_far)).2.2.2.2.2.2.1 : Nat) : Int)) ((addLineT 1 ((va_up (va_up (va_up (va_up t_ce c (q * (-1))) 5 (((va_up t_ce c (q * (-1))) 5) + (q * (a_hi c)))) (((1 + c) * 6) + c) (-1)) (((1 + c) * 6) + 5) ((a_hi c) - (a_lo c))), t_ti, (va_up t_lo c (a_lo c)), (va_up t_hi c (a_hi c)), (va_up (va_up t_gl c (-1)) c (((t_nl : Nat) : Int))), (va_up t_sh c 0), t_nl, t_bel, t_far)).2.2.2.2.2.2.2.1) ((addLineT 1 ((va_up (va_up (va_up (va_up t_ce c (q * (-1))) 5 (((va_up t_ce c (q * (-1))) 5) + (q * (a_hi c)))) (((1 + c) * 6) + c) (-1)) (((1 + c) * 6) + 5) ((a_hi c) - (a_lo c))), t_ti, (va_up t_lo c (a_lo c)), (va_up t_hi c (a_hi c)), (va_up (va_up t_gl c (-1)) c (((t_nl : Nat) : Int))), (va_up t_sh c 0), t_nl, t_bel, t_far)).2.2.2.2.2.2.2.2) ++ wP cA a (a_kd) (a_lo) (a_hi) (a_co) (a_pa) (a_rk) (a_nu) (a_ct) (a_sa) (((a_nc : Nat) : Int)) (((a_nr : Nat) : Int))) rfl dX5_beginColumn_201 ?_
            exact g_vret F rfl (by decide) (by decide) ⟨rfl, (by unfold bcT startZ wayZ bcC; first | (rw [if_pos (show a_hi c = -2000000005 by omega), if_neg (show ¬ (q < 0 ∧ a_hi c ≠ -2000000005) by omega), if_neg (show ¬ (q < 0 ∧ a_hi c ≠ -2000000005) by omega)] <;> rfl) | (rw [if_neg (show ¬ a_hi c = -2000000005 by omega), if_neg (show ¬ (q < 0 ∧ a_hi c ≠ -2000000005) by omega), if_neg (show ¬ (q < 0 ∧ a_hi c ≠ -2000000005) by omega)] <;> rfl) | (rw [if_neg (show ¬ a_hi c = -2000000005 by omega), if_pos (show q < 0 ∧ a_hi c ≠ -2000000005 by omega), if_pos (show q < 0 ∧ a_hi c ≠ -2000000005 by omega)] <;> rfl))⟩ dX5_beginColumn_202
