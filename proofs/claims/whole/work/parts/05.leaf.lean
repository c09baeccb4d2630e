-- ===== the worlds =====
abbrev wT (cA : Nat → ClassId) (a : Nat → Nat) (ce : Nat → Int) (ti : Nat → Int) (lo : Nat → Int) (hi : Nat → Int) (gl : Nat → Int) (sh : Nat → Int) (nc : Int) (nl : Int) (bel : Int) (far : Int) : va_W := [(a 0, .inr (5, [.ref (a 1), .ref (a 2), .ref (a 3), .ref (a 4), .ref (a 5), .ref (a 6), iv nc, iv nl, jv bel, iv far])), (a 1, aJ cA 108 ce), (a 2, aI cA 18 ti), (a 3, aI cA 5 lo), (a 4, aI cA 5 hi), (a 5, aI cA 5 gl), (a 6, aZ cA 5 sh)]
abbrev wP (cA : Nat → ClassId) (a : Nat → Nat) (kd : Nat → Int) (lo : Nat → Int) (hi : Nat → Int) (co : Nat → Int) (pa : Nat → Int) (rk : Nat → Int) (nu : Nat → Int) (ct : Nat → Int) (sa : Nat → Int) (nc : Int) (nr : Int) : va_W := [(a 0, .inr (2, [.ref (a 1), .ref (a 2), .ref (a 3), .ref (a 4), .ref (a 5), .ref (a 6), .ref (a 7), .ref (a 8), .ref (a 9), iv nc, iv nr])), (a 1, aI cA 5 kd), (a 2, aI cA 5 lo), (a 3, aI cA 5 hi), (a 4, aI cA 5 co), (a 5, aI cA 5 pa), (a 6, aI cA 7 rk), (a 7, aI cA 7 nu), (a 8, aI cA 7 ct), (a 9, aI cA 35 sa)]
abbrev wB (cA : Nat → ClassId) (a : Nat → Nat) (va : Nat → Int) (cost : Int) (bel : Int) (out : Int) : va_W := [(a 0, .inr (0, [.ref (a 1), jv cost, jv bel, iv out])), (a 1, aJ cA 5 va)]
abbrev wH (cA : Nat → ClassId) (a : Nat → Nat) (pl : Nat → Int) (pr : Nat → Int) (pb : Int) (qb : Int) : va_W := [(a 0, .inr (1, [.ref (a 1), .ref (a 2), jv pb, iv qb])), (a 1, aJ cA 5 pl), (a 2, aI cA 7 pr)]
abbrev wJ (cA : Nat → ClassId) (a : Nat → Nat) (pl : Nat → Int) : va_W := [(a 0, aJ cA 5 pl)]
set_option maxHeartbeats 4000000 in
set_option maxRecDepth 100000 in
theorem kX6_isBit (l : Launch) (D : va_G) (cA : Nat → ClassId) (v : Int) (hv : -2147483648 ≤ v ∧ v ≤ 2147483647) : CR l yX6_isBit wsX6_isBit ({ frames := 0, cells := 0, slots := 0, locals := 0 }) D cA [iv (v)] ([]) (fun ov => ov = some (iv (if v = 0 ∨ v = 1 then 1 else 0))) := by
  refine CR.mk (cc := cX6_isBit) (maxL := 1) (ret := (some .boolean)) (by decide) rfl (Nat.le_of_ble_eq_true rfl) ?_
  intro p_ e_ s_ m_ b_ me_ c_ F
  have hV := @IR_P D s_
  refine g_lsub ([(0, iv (v))]) [0] rfl ?_
  refine g_iload_n F 0 rfl rfl dX6_isBit_0 ?_
  refine g_if_eq F (tgt := 9) dX6_isBit_1 (by decide) ⟨by omega, by omega⟩ (fun c_1 => ?_) (fun c_1 => ?_)
  · skip
    refine g_iconst F dX6_isBit_9 ?_
    refine g_goto F (tgt := 14) dX6_isBit_10 (by decide) ?_
    exact g_zretR F rfl (nar_01 (Or.inr rfl)) (congrArg (fun z => some (iv z)) (show (1 : Int) = if v = 0 ∨ v = 1 then 1 else 0 by first | rfl | (rw [if_pos (by omega)]) | (rw [if_neg (by omega)]))) dX6_isBit_14
  · skip
    refine g_iload_n F 0 rfl rfl dX6_isBit_4 ?_
    refine g_iconst F dX6_isBit_5 ?_
    refine g_icmp_ne F (tgt := 13) dX6_isBit_6 (by decide) ⟨by omega, by omega⟩ ⟨by decide, by decide⟩ (fun c_2 => ?_) (fun c_2 => ?_)
    · skip
      refine g_iconst F dX6_isBit_13 ?_
      exact g_zretR F rfl (nar_01 (Or.inl rfl)) (congrArg (fun z => some (iv z)) (show (0 : Int) = if v = 0 ∨ v = 1 then 1 else 0 by first | rfl | (rw [if_pos (by omega)]) | (rw [if_neg (by omega)]))) dX6_isBit_14
    · skip
      refine g_iconst F dX6_isBit_9 ?_
      refine g_goto F (tgt := 14) dX6_isBit_10 (by decide) ?_
      exact g_zretR F rfl (nar_01 (Or.inr rfl)) (congrArg (fun z => some (iv z)) (show (1 : Int) = if v = 0 ∨ v = 1 then 1 else 0 by first | rfl | (rw [if_pos (by omega)]) | (rw [if_neg (by omega)]))) dX6_isBit_14

set_option maxHeartbeats 4000000 in
set_option maxRecDepth 100000 in
theorem kX6_isKind (l : Launch) (D : va_G) (cA : Nat → ClassId) (v : Int) (hv : -2147483648 ≤ v ∧ v ≤ 2147483647) : CR l yX6_isKind wsX6_isKind ({ frames := 0, cells := 0, slots := 0, locals := 0 }) D cA [iv (v)] ([]) (fun ov => ov = some (iv (if 0 ≤ v ∧ v ≤ 2 then 1 else 0))) := by
  refine CR.mk (cc := cX6_isKind) (maxL := 1) (ret := (some .boolean)) (by decide) rfl (Nat.le_of_ble_eq_true rfl) ?_
  intro p_ e_ s_ m_ b_ me_ c_ F
  have hV := @IR_P D s_
  refine g_lsub ([(0, iv (v))]) [0] rfl ?_
  refine g_iload_n F 0 rfl rfl dX6_isKind_0 ?_
  refine g_if_lt F (tgt := 13) dX6_isKind_1 (by decide) ⟨by omega, by omega⟩ (fun c_1 => ?_) (fun c_1 => ?_)
  · skip
    refine g_iconst F dX6_isKind_13 ?_
    exact g_zretR F rfl (nar_01 (Or.inl rfl)) (congrArg (fun z => some (iv z)) (show (0 : Int) = if 0 ≤ v ∧ v ≤ 2 then 1 else 0 by first | rfl | (rw [if_pos (by omega)]) | (rw [if_neg (by omega)]))) dX6_isKind_14
  · skip
    refine g_iload_n F 0 rfl rfl dX6_isKind_4 ?_
    refine g_iconst F dX6_isKind_5 ?_
    refine g_icmp_gt F (tgt := 13) dX6_isKind_6 (by decide) ⟨by omega, by omega⟩ ⟨by decide, by decide⟩ (fun c_2 => ?_) (fun c_2 => ?_)
    · skip
      refine g_iconst F dX6_isKind_13 ?_
      exact g_zretR F rfl (nar_01 (Or.inl rfl)) (congrArg (fun z => some (iv z)) (show (0 : Int) = if 0 ≤ v ∧ v ≤ 2 then 1 else 0 by first | rfl | (rw [if_pos (by omega)]) | (rw [if_neg (by omega)]))) dX6_isKind_14
    · skip
      refine g_iconst F dX6_isKind_9 ?_
      refine g_goto F (tgt := 14) dX6_isKind_10 (by decide) ?_
      exact g_zretR F rfl (nar_01 (Or.inr rfl)) (congrArg (fun z => some (iv z)) (show (1 : Int) = if 0 ≤ v ∧ v ≤ 2 then 1 else 0 by first | rfl | (rw [if_pos (by omega)]) | (rw [if_neg (by omega)]))) dX6_isKind_14

set_option maxHeartbeats 4000000 in
set_option maxRecDepth 100000 in
theorem kX6_isBelow (l : Launch) (D : va_G) (cA : Nat → ClassId) (v : Int) (hv : -2147483648 ≤ v ∧ v ≤ 2147483647) : CR l yX6_isBelow wsX6_isBelow ({ frames := 0, cells := 0, slots := 0, locals := 0 }) D cA [iv (v)] ([]) (fun ov => ov = some (iv (if 1 ≤ v ∧ v ≤ 1000000 then 1 else 0))) := by
  refine CR.mk (cc := cX6_isBelow) (maxL := 1) (ret := (some .boolean)) (by decide) rfl (Nat.le_of_ble_eq_true rfl) ?_
  intro p_ e_ s_ m_ b_ me_ c_ F
  have hV := @IR_P D s_
  refine g_lsub ([(0, iv (v))]) [0] rfl ?_
  refine g_iload_n F 0 rfl rfl dX6_isBelow_0 ?_
  refine g_iconst F dX6_isBelow_1 ?_
  refine g_icmp_lt F (tgt := 15) dX6_isBelow_2 (by decide) ⟨by omega, by omega⟩ ⟨by decide, by decide⟩ (fun c_1 => ?_) (fun c_1 => ?_)
  · skip
    refine g_iconst F dX6_isBelow_15 ?_
    exact g_zretR F rfl (nar_01 (Or.inl rfl)) (congrArg (fun z => some (iv z)) (show (0 : Int) = if 1 ≤ v ∧ v ≤ 1000000 then 1 else 0 by first | rfl | (rw [if_pos (by omega)]) | (rw [if_neg (by omega)]))) dX6_isBelow_16
  · skip
    refine g_iload_n F 0 rfl rfl dX6_isBelow_5 ?_
    refine g_ldc F (1000000) (by decide) (List.mem_of_getElem? (i := 1) rfl) dX6_isBelow_6 ?_
    refine g_icmp_gt F (tgt := 15) dX6_isBelow_8 (by decide) ⟨by omega, by omega⟩ ⟨by decide, by decide⟩ (fun c_2 => ?_) (fun c_2 => ?_)
    · skip
      refine g_iconst F dX6_isBelow_15 ?_
      exact g_zretR F rfl (nar_01 (Or.inl rfl)) (congrArg (fun z => some (iv z)) (show (0 : Int) = if 1 ≤ v ∧ v ≤ 1000000 then 1 else 0 by first | rfl | (rw [if_pos (by omega)]) | (rw [if_neg (by omega)]))) dX6_isBelow_16
    · skip
      refine g_iconst F dX6_isBelow_11 ?_
      refine g_goto F (tgt := 16) dX6_isBelow_12 (by decide) ?_
      exact g_zretR F rfl (nar_01 (Or.inr rfl)) (congrArg (fun z => some (iv z)) (show (1 : Int) = if 1 ≤ v ∧ v ≤ 1000000 then 1 else 0 by first | rfl | (rw [if_pos (by omega)]) | (rw [if_neg (by omega)]))) dX6_isBelow_16

set_option maxHeartbeats 4000000 in
set_option maxRecDepth 100000 in
theorem kX6_isWithin (l : Launch) (D : va_G) (cA : Nat → ClassId) (v : Int) (g : Int) (hv : -2147483648 ≤ v ∧ v ≤ 2147483647) (hg : 0 ≤ g ∧ g ≤ 2147483647) : CR l yX6_isWithin wsX6_isWithin ({ frames := 0, cells := 0, slots := 0, locals := 0 }) D cA [iv (v), iv (g)] ([]) (fun ov => ov = some (iv (if -g ≤ v ∧ v ≤ g then 1 else 0))) := by
  refine CR.mk (cc := cX6_isWithin) (maxL := 2) (ret := (some .boolean)) (by decide) rfl (Nat.le_of_ble_eq_true rfl) ?_
  intro p_ e_ s_ m_ b_ me_ c_ F
  have hV := @IR_P D s_
  refine g_lsub ([(0, iv (v)), (1, iv (g))]) [0, 1] rfl ?_
  refine g_iload_n F 0 rfl rfl dX6_isWithin_0 ?_
  refine g_iload_n F 1 rfl rfl dX6_isWithin_1 ?_
  refine g_ineg F dX6_isWithin_2 ?_
  refine g_icmp_lt F (tgt := 15) dX6_isWithin_3 (by decide) ⟨by omega, by omega⟩ ⟨by omega, by omega⟩ (fun c_1 => ?_) (fun c_1 => ?_)
  · skip
    refine g_iconst F dX6_isWithin_15 ?_
    exact g_zretR F rfl (nar_01 (Or.inl rfl)) (congrArg (fun z => some (iv z)) (show (0 : Int) = if -g ≤ v ∧ v ≤ g then 1 else 0 by first | rfl | (rw [if_pos (by omega)]) | (rw [if_neg (by omega)]))) dX6_isWithin_16
  · skip
    refine g_iload_n F 0 rfl rfl dX6_isWithin_6 ?_
    refine g_iload_n F 1 rfl rfl dX6_isWithin_7 ?_
    refine g_icmp_gt F (tgt := 15) dX6_isWithin_8 (by decide) ⟨by omega, by omega⟩ ⟨by omega, by omega⟩ (fun c_2 => ?_) (fun c_2 => ?_)
    · skip
      refine g_iconst F dX6_isWithin_15 ?_
      exact g_zretR F rfl (nar_01 (Or.inl rfl)) (congrArg (fun z => some (iv z)) (show (0 : Int) = if -g ≤ v ∧ v ≤ g then 1 else 0 by first | rfl | (rw [if_pos (by omega)]) | (rw [if_neg (by omega)]))) dX6_isWithin_16
    · skip
      refine g_iconst F dX6_isWithin_11 ?_
      refine g_goto F (tgt := 16) dX6_isWithin_12 (by decide) ?_
      exact g_zretR F rfl (nar_01 (Or.inr rfl)) (congrArg (fun z => some (iv z)) (show (1 : Int) = if -g ≤ v ∧ v ≤ g then 1 else 0 by first | rfl | (rw [if_pos (by omega)]) | (rw [if_neg (by omega)]))) dX6_isWithin_16

set_option maxHeartbeats 4000000 in
set_option maxRecDepth 100000 in
theorem kX5_costAbove (l : Launch) (D : va_G) (cA : Nat → ClassId) (t : Nat → Nat) (t_ce : Nat → Int) (t_ti : Nat → Int) (t_lo : Nat → Int) (t_hi : Nat → Int) (t_gl : Nat → Int) (t_sh : Nat → Int) (t_nc : Int) (t_nl : Int) (t_bel : Int) (t_far : Int) : CR l yX5_costAbove wsX5_costAbove ({ frames := 0, cells := 0, slots := 0, locals := 0 }) D cA [.ref (t 0)] (wT cA t (t_ce) (t_ti) (t_lo) (t_hi) (t_gl) (t_sh) (t_nc) (t_nl) (t_bel) (t_far)) (fun ov => ov = some (jv (t_ce 5))) := by
  refine CR.mk (cc := cX5_costAbove) (maxL := 1) (ret := (some .long)) (by decide) rfl (Nat.le_of_ble_eq_true rfl) ?_
  intro p_ e_ s_ m_ b_ me_ c_ F
  have hV := @IR_P D s_
  have iX5 : ∀ w ∈ u_ws RX5 TX5 10, w ∈ wsX5_costAbove := by decide +kernel
  refine g_lsub ([(0, .ref (t 0))]) [0] rfl ?_
  refine g_aload_n F 0 rfl rfl dX5_costAbove_0 ?_
  refine g_get F hV iX5 0 rfl rfl 0 (by decide) (List.mem_of_getElem? (i := 1) rfl) rfl dX5_costAbove_1 ?_
  refine g_iconst F dX5_costAbove_4 ?_
  refine g_lald F hV 1 rfl (5) (by omega) (by omega) (by decide) dX5_costAbove_5 ?_
  exact g_lretR F rfl (congrArg (fun z => some (jv z)) (show (t_ce 5 : Int) = t_ce 5 by first | rfl | omega)) dX5_costAbove_6

set_option maxHeartbeats 4000000 in
set_option maxRecDepth 100000 in
theorem kX5_isEndless (l : Launch) (D : va_G) (cA : Nat → ClassId) (t : Nat → Nat) (t_ce : Nat → Int) (t_ti : Nat → Int) (t_lo : Nat → Int) (t_hi : Nat → Int) (t_gl : Nat → Int) (t_sh : Nat → Int) (t_nc : Int) (t_nl : Int) (t_bel : Int) (t_far : Int) (hf : -1 ≤ t_far ∧ t_far ≤ 4) : CR l yX5_isEndless wsX5_isEndless ({ frames := 0, cells := 0, slots := 0, locals := 0 }) D cA [.ref (t 0)] (wT cA t (t_ce) (t_ti) (t_lo) (t_hi) (t_gl) (t_sh) (t_nc) (t_nl) (t_bel) (t_far)) (fun ov => ov = some (iv (if 0 ≤ t_far then 1 else 0))) := by
  refine CR.mk (cc := cX5_isEndless) (maxL := 1) (ret := (some .boolean)) (by decide) rfl (Nat.le_of_ble_eq_true rfl) ?_
  intro p_ e_ s_ m_ b_ me_ c_ F
  have hV := @IR_P D s_
  have iX5 : ∀ w ∈ u_ws RX5 TX5 10, w ∈ wsX5_isEndless := by decide +kernel
  refine g_lsub ([(0, .ref (t 0))]) [0] rfl ?_
  refine g_aload_n F 0 rfl rfl dX5_isEndless_0 ?_
  refine g_get F hV iX5 0 rfl rfl 9 (by decide) (List.mem_of_getElem? (i := 1) rfl) rfl dX5_isEndless_1 ?_
  refine g_if_lt F (tgt := 11) dX5_isEndless_4 (by decide) ⟨by omega, by omega⟩ (fun c_1 => ?_) (fun c_1 => ?_)
  · skip
    refine g_iconst F dX5_isEndless_11 ?_
    exact g_zretR F rfl (nar_01 (Or.inl rfl)) (congrArg (fun z => some (iv z)) (show (0 : Int) = if 0 ≤ t_far then 1 else 0 by first | rfl | (rw [if_pos (by omega)]) | (rw [if_neg (by omega)]))) dX5_isEndless_12
  · skip
    refine g_iconst F dX5_isEndless_7 ?_
    refine g_goto F (tgt := 12) dX5_isEndless_8 (by decide) ?_
    exact g_zretR F rfl (nar_01 (Or.inr rfl)) (congrArg (fun z => some (iv z)) (show (1 : Int) = if 0 ≤ t_far then 1 else 0 by first | rfl | (rw [if_pos (by omega)]) | (rw [if_neg (by omega)]))) dX5_isEndless_12

set_option maxHeartbeats 4000000 in
set_option maxRecDepth 100000 in
theorem kX5_valueAbove (l : Launch) (D : va_G) (cA : Nat → ClassId) (t : Nat → Nat) (t_ce : Nat → Int) (t_ti : Nat → Int) (t_lo : Nat → Int) (t_hi : Nat → Int) (t_gl : Nat → Int) (t_sh : Nat → Int) (t_nc : Int) (t_nl : Int) (t_bel : Int) (t_far : Int) (c : Nat) (hc : c < 5) (hlo : ∀ j, -20 ≤ t_lo j ∧ t_lo j ≤ 20) : CR l yX5_valueAbove wsX5_valueAbove ({ frames := 0, cells := 0, slots := 0, locals := 0 }) D cA [.ref (t 0), iv (((c : Nat) : Int))] (wT cA t (t_ce) (t_ti) (t_lo) (t_hi) (t_gl) (t_sh) (t_nc) (t_nl) (t_bel) (t_far)) (fun ov => ov = some (jv (t_lo c * t_bel + t_ce ((1 + c) * 6 + 5)))) := by
  refine CR.mk (cc := cX5_valueAbove) (maxL := 2) (ret := (some .long)) (by decide) rfl (Nat.le_of_ble_eq_true rfl) ?_
  intro p_ e_ s_ m_ b_ me_ c_ F
  have hV := @IR_P D s_
  have iX5 : ∀ w ∈ u_ws RX5 TX5 10, w ∈ wsX5_valueAbove := by decide +kernel
  refine g_lsub ([(0, .ref (t 0)), (1, iv (((c : Nat) : Int)))]) [0, 1] rfl ?_
  refine g_aload_n F 0 rfl rfl dX5_valueAbove_0 ?_
  refine g_get F hV iX5 0 rfl rfl 2 (by decide) (List.mem_of_getElem? (i := 1) rfl) rfl dX5_valueAbove_1 ?_
  refine g_iload_n F 1 rfl rfl dX5_valueAbove_4 ?_
  have r_1 := hlo (c)
  refine g_iald F hV 3 rfl (c) (by omega) (by omega) (by decide) dX5_valueAbove_5 ?_
  refine g_i2l F ⟨by omega, by omega⟩ dX5_valueAbove_6 ?_
  refine g_aload_n F 0 rfl rfl dX5_valueAbove_7 ?_
  refine g_get F hV iX5 0 rfl rfl 8 (by decide) (List.mem_of_getElem? (i := 2) rfl) rfl dX5_valueAbove_8 ?_
  refine g_lmul F dX5_valueAbove_11 ?_
  refine g_aload_n F 0 rfl rfl dX5_valueAbove_12 ?_
  refine g_get F hV iX5 0 rfl rfl 0 (by decide) (List.mem_of_getElem? (i := 3) rfl) rfl dX5_valueAbove_13 ?_
  refine g_iconst F dX5_valueAbove_16 ?_
  refine g_iload_n F 1 rfl rfl dX5_valueAbove_17 ?_
  refine g_iadd F dX5_valueAbove_18 ?_
  refine g_bipush F dX5_valueAbove_19 (by decide) ?_
  refine g_imul F dX5_valueAbove_21 ?_
  refine g_iconst F dX5_valueAbove_22 ?_
  refine g_iadd F dX5_valueAbove_23 ?_
  refine g_lald F hV 1 rfl (((1 + c) * 6) + 5) (by omega) (by omega) (by decide) dX5_valueAbove_24 ?_
  refine g_ladd F dX5_valueAbove_25 ?_
  exact g_lretR F rfl (congrArg (fun z => some (jv z)) (show (((t_lo c) * t_bel) + (t_ce (((1 + c) * 6) + 5)) : Int) = t_lo c * t_bel + t_ce ((1 + c) * 6 + 5) by first | rfl | omega)) dX5_valueAbove_26
