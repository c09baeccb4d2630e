set_option maxHeartbeats 4000000 in
set_option maxRecDepth 100000 in
theorem kX6_isBit (l : Launch) (D : va_G) (cA : Nat → ClassId) (v : Int) (hv : -2147483648 ≤ v ∧ v ≤ 2147483647) : CR l yX6_isBit wsX6_isBit ({ frames := 0, cells := 0, slots := 0, locals := 0 }) D cA [iv (v)] ([]) (fun ov => ov = some (iv (if v = 0 ∨ v = 1 then 1 else 0))) := by
  refine CR.mk (cc := cX6_isBit) (maxL := 1) (ret := (some .boolean)) (by decide +kernel) rfl (Nat.le_of_ble_eq_true rfl) ?_
  intro p_ e_ s_ m_ b_ me_ c_ F
  have hV := @IR_P D s_
  refine g_lsub ([(0, iv (v))]) [0] rfl ?_
  refine g_iload_n F 0 rfl rfl dX6_isBit_0 ?_
  refine g_if_eq F (tgt := 9) dX6_isBit_1 (by decide) ⟨by omega, by omega⟩ (fun c_1 => ?_) (fun c_1 => ?_)
  · skip
    refine g_iconst F dX6_isBit_9 ?_
    refine g_goto F (tgt := 14) dX6_isBit_10 (by decide) ?_
    exact g_zretR F rfl (nar_01 (Or.inr rfl)) (congrArg (fun z => some (iv z)) (show (1 : Int) = if v = 0 ∨ v = 1 then 1 else 0 by first | rfl | (rw [if_neg (by omega)]; done) | (rw [if_pos (by omega)]; done) | (exfalso; omega))) dX6_isBit_14
  · skip
    refine g_iload_n F 0 rfl rfl dX6_isBit_4 ?_
    refine g_iconst F dX6_isBit_5 ?_
    refine g_icmp_ne F (tgt := 13) dX6_isBit_6 (by decide) ⟨by omega, by omega⟩ ⟨by decide, by decide⟩ (fun c_2 => ?_) (fun c_2 => ?_)
    · skip
      refine g_iconst F dX6_isBit_13 ?_
      exact g_zretR F rfl (nar_01 (Or.inl rfl)) (congrArg (fun z => some (iv z)) (show (0 : Int) = if v = 0 ∨ v = 1 then 1 else 0 by first | rfl | (rw [if_neg (by omega)]; done) | (rw [if_pos (by omega)]; done) | (exfalso; omega))) dX6_isBit_14
    · skip
      refine g_iconst F dX6_isBit_9 ?_
      refine g_goto F (tgt := 14) dX6_isBit_10 (by decide) ?_
      exact g_zretR F rfl (nar_01 (Or.inr rfl)) (congrArg (fun z => some (iv z)) (show (1 : Int) = if v = 0 ∨ v = 1 then 1 else 0 by first | rfl | (rw [if_neg (by omega)]; done) | (rw [if_pos (by omega)]; done) | (exfalso; omega))) dX6_isBit_14

set_option maxHeartbeats 4000000 in
set_option maxRecDepth 100000 in
theorem kX6_isKind (l : Launch) (D : va_G) (cA : Nat → ClassId) (v : Int) (hv : -2147483648 ≤ v ∧ v ≤ 2147483647) : CR l yX6_isKind wsX6_isKind ({ frames := 0, cells := 0, slots := 0, locals := 0 }) D cA [iv (v)] ([]) (fun ov => ov = some (iv (if 0 ≤ v ∧ v ≤ 2 then 1 else 0))) := by
  refine CR.mk (cc := cX6_isKind) (maxL := 1) (ret := (some .boolean)) (by decide +kernel) rfl (Nat.le_of_ble_eq_true rfl) ?_
  intro p_ e_ s_ m_ b_ me_ c_ F
  have hV := @IR_P D s_
  refine g_lsub ([(0, iv (v))]) [0] rfl ?_
  refine g_iload_n F 0 rfl rfl dX6_isKind_0 ?_
  refine g_if_lt F (tgt := 13) dX6_isKind_1 (by decide) ⟨by omega, by omega⟩ (fun c_1 => ?_) (fun c_1 => ?_)
  · skip
    refine g_iconst F dX6_isKind_13 ?_
    exact g_zretR F rfl (nar_01 (Or.inl rfl)) (congrArg (fun z => some (iv z)) (show (0 : Int) = if 0 ≤ v ∧ v ≤ 2 then 1 else 0 by first | rfl | (rw [if_neg (by omega)]; done) | (rw [if_pos (by omega)]; done) | (exfalso; omega))) dX6_isKind_14
  · skip
    refine g_iload_n F 0 rfl rfl dX6_isKind_4 ?_
    refine g_iconst F dX6_isKind_5 ?_
    refine g_icmp_gt F (tgt := 13) dX6_isKind_6 (by decide) ⟨by omega, by omega⟩ ⟨by decide, by decide⟩ (fun c_2 => ?_) (fun c_2 => ?_)
    · skip
      refine g_iconst F dX6_isKind_13 ?_
      exact g_zretR F rfl (nar_01 (Or.inl rfl)) (congrArg (fun z => some (iv z)) (show (0 : Int) = if 0 ≤ v ∧ v ≤ 2 then 1 else 0 by first | rfl | (rw [if_neg (by omega)]; done) | (rw [if_pos (by omega)]; done) | (exfalso; omega))) dX6_isKind_14
    · skip
      refine g_iconst F dX6_isKind_9 ?_
      refine g_goto F (tgt := 14) dX6_isKind_10 (by decide) ?_
      exact g_zretR F rfl (nar_01 (Or.inr rfl)) (congrArg (fun z => some (iv z)) (show (1 : Int) = if 0 ≤ v ∧ v ≤ 2 then 1 else 0 by first | rfl | (rw [if_neg (by omega)]; done) | (rw [if_pos (by omega)]; done) | (exfalso; omega))) dX6_isKind_14

set_option maxHeartbeats 4000000 in
set_option maxRecDepth 100000 in
theorem kX6_isBelow (l : Launch) (D : va_G) (cA : Nat → ClassId) (v : Int) (hv : -2147483648 ≤ v ∧ v ≤ 2147483647) : CR l yX6_isBelow wsX6_isBelow ({ frames := 0, cells := 0, slots := 0, locals := 0 }) D cA [iv (v)] ([]) (fun ov => ov = some (iv (if 1 ≤ v ∧ v ≤ 1000000 then 1 else 0))) := by
  refine CR.mk (cc := cX6_isBelow) (maxL := 1) (ret := (some .boolean)) (by decide +kernel) rfl (Nat.le_of_ble_eq_true rfl) ?_
  intro p_ e_ s_ m_ b_ me_ c_ F
  have hV := @IR_P D s_
  refine g_lsub ([(0, iv (v))]) [0] rfl ?_
  refine g_iload_n F 0 rfl rfl dX6_isBelow_0 ?_
  refine g_iconst F dX6_isBelow_1 ?_
  refine g_icmp_lt F (tgt := 15) dX6_isBelow_2 (by decide) ⟨by omega, by omega⟩ ⟨by decide, by decide⟩ (fun c_1 => ?_) (fun c_1 => ?_)
  · skip
    refine g_iconst F dX6_isBelow_15 ?_
    exact g_zretR F rfl (nar_01 (Or.inl rfl)) (congrArg (fun z => some (iv z)) (show (0 : Int) = if 1 ≤ v ∧ v ≤ 1000000 then 1 else 0 by first | rfl | (rw [if_neg (by omega)]; done) | (rw [if_pos (by omega)]; done) | (exfalso; omega))) dX6_isBelow_16
  · skip
    refine g_iload_n F 0 rfl rfl dX6_isBelow_5 ?_
    refine g_ldc F (1000000) (by decide) (List.mem_of_getElem? (i := 1) rfl) dX6_isBelow_6 ?_
    refine g_icmp_gt F (tgt := 15) dX6_isBelow_8 (by decide) ⟨by omega, by omega⟩ ⟨by decide, by decide⟩ (fun c_2 => ?_) (fun c_2 => ?_)
    · skip
      refine g_iconst F dX6_isBelow_15 ?_
      exact g_zretR F rfl (nar_01 (Or.inl rfl)) (congrArg (fun z => some (iv z)) (show (0 : Int) = if 1 ≤ v ∧ v ≤ 1000000 then 1 else 0 by first | rfl | (rw [if_neg (by omega)]; done) | (rw [if_pos (by omega)]; done) | (exfalso; omega))) dX6_isBelow_16
    · skip
      refine g_iconst F dX6_isBelow_11 ?_
      refine g_goto F (tgt := 16) dX6_isBelow_12 (by decide) ?_
      exact g_zretR F rfl (nar_01 (Or.inr rfl)) (congrArg (fun z => some (iv z)) (show (1 : Int) = if 1 ≤ v ∧ v ≤ 1000000 then 1 else 0 by first | rfl | (rw [if_neg (by omega)]; done) | (rw [if_pos (by omega)]; done) | (exfalso; omega))) dX6_isBelow_16

set_option maxHeartbeats 4000000 in
set_option maxRecDepth 100000 in
theorem kX6_isWithin (l : Launch) (D : va_G) (cA : Nat → ClassId) (v : Int) (g : Int) (hv : -2147483648 ≤ v ∧ v ≤ 2147483647) (hg : 0 ≤ g ∧ g ≤ 2147483647) : CR l yX6_isWithin wsX6_isWithin ({ frames := 0, cells := 0, slots := 0, locals := 0 }) D cA [iv (v), iv (g)] ([]) (fun ov => ov = some (iv (if -g ≤ v ∧ v ≤ g then 1 else 0))) := by
  refine CR.mk (cc := cX6_isWithin) (maxL := 2) (ret := (some .boolean)) (by decide +kernel) rfl (Nat.le_of_ble_eq_true rfl) ?_
  intro p_ e_ s_ m_ b_ me_ c_ F
  have hV := @IR_P D s_
  refine g_lsub ([(0, iv (v)), (1, iv (g))]) [0, 1] rfl ?_
  refine g_iload_n F 0 rfl rfl dX6_isWithin_0 ?_
  refine g_iload_n F 1 rfl rfl dX6_isWithin_1 ?_
  refine g_ineg F dX6_isWithin_2 ?_
  refine g_icmp_lt F (tgt := 15) dX6_isWithin_3 (by decide) ⟨by omega, by omega⟩ ⟨by omega, by omega⟩ (fun c_1 => ?_) (fun c_1 => ?_)
  · skip
    refine g_iconst F dX6_isWithin_15 ?_
    exact g_zretR F rfl (nar_01 (Or.inl rfl)) (congrArg (fun z => some (iv z)) (show (0 : Int) = if -g ≤ v ∧ v ≤ g then 1 else 0 by first | rfl | (rw [if_neg (by omega)]; done) | (rw [if_pos (by omega)]; done) | (exfalso; omega))) dX6_isWithin_16
  · skip
    refine g_iload_n F 0 rfl rfl dX6_isWithin_6 ?_
    refine g_iload_n F 1 rfl rfl dX6_isWithin_7 ?_
    refine g_icmp_gt F (tgt := 15) dX6_isWithin_8 (by decide) ⟨by omega, by omega⟩ ⟨by omega, by omega⟩ (fun c_2 => ?_) (fun c_2 => ?_)
    · skip
      refine g_iconst F dX6_isWithin_15 ?_
      exact g_zretR F rfl (nar_01 (Or.inl rfl)) (congrArg (fun z => some (iv z)) (show (0 : Int) = if -g ≤ v ∧ v ≤ g then 1 else 0 by first | rfl | (rw [if_neg (by omega)]; done) | (rw [if_pos (by omega)]; done) | (exfalso; omega))) dX6_isWithin_16
    · skip
      refine g_iconst F dX6_isWithin_11 ?_
      refine g_goto F (tgt := 16) dX6_isWithin_12 (by decide) ?_
      exact g_zretR F rfl (nar_01 (Or.inr rfl)) (congrArg (fun z => some (iv z)) (show (1 : Int) = if -g ≤ v ∧ v ≤ g then 1 else 0 by first | rfl | (rw [if_neg (by omega)]; done) | (rw [if_pos (by omega)]; done) | (exfalso; omega))) dX6_isWithin_16

set_option maxHeartbeats 4000000 in
set_option maxRecDepth 100000 in
theorem kJ13_compare_74951 (l : Launch) (D : va_G) (cA : Nat → ClassId) (x : Int) (y : Int) (hx : -9223372036854775808 ≤ x ∧ x ≤ 9223372036854775807) (hy : -9223372036854775808 ≤ y ∧ y ≤ 9223372036854775807) : CR l yJ13_compare_74951 wsJ13_compare_74951 ({ frames := 0, cells := 0, slots := 0, locals := 0 }) D cA [jv (x), jv (y)] ([]) (fun ov => ov = some (iv (cmpZ x y))) := by
  refine CR.mk (cc := cJ13_compare_74951) (maxL := 4) (ret := (some .int)) (by decide +kernel) rfl (Nat.le_of_ble_eq_true rfl) ?_
  intro p_ e_ s_ m_ b_ me_ c_ F
  have hV := @IR_P D s_
  refine g_lsub ([(0, jv (x)), (2, jv (y))]) [0, 1] rfl ?_
  refine g_lload_n F 0 rfl rfl dJ13_compare_74951_0 ?_
  refine g_lload_n F 1 rfl rfl dJ13_compare_74951_1 ?_
  refine g_lcmp_ge F (tgt := 10) dJ13_compare_74951_2 dJ13_compare_74951_3 (by decide) ⟨by omega, by omega⟩ ⟨by omega, by omega⟩ (fun c_1 => ?_) (fun c_1 => ?_)
  · skip
    refine g_lload_n F 0 rfl rfl dJ13_compare_74951_10 ?_
    refine g_lload_n F 1 rfl rfl dJ13_compare_74951_11 ?_
    refine g_lcmp_ne F (tgt := 20) dJ13_compare_74951_12 dJ13_compare_74951_13 (by decide) ⟨by omega, by omega⟩ ⟨by omega, by omega⟩ (fun c_2 => ?_) (fun c_2 => ?_)
    · skip
      refine g_iconst F dJ13_compare_74951_20 ?_
      exact g_zretR F rfl rfl (congrArg (fun z => some (iv z)) (show (1 : Int) = cmpZ x y by unfold cmpZ; first | (rw [if_pos (by omega)]) | (rw [if_neg (by omega), if_pos (by omega)]) | (rw [if_neg (by omega), if_neg (by omega)]))) dJ13_compare_74951_21
    · skip
      refine g_iconst F dJ13_compare_74951_16 ?_
      refine g_goto F (tgt := 21) dJ13_compare_74951_17 (by decide) ?_
      exact g_zretR F rfl rfl (congrArg (fun z => some (iv z)) (show (0 : Int) = cmpZ x y by unfold cmpZ; first | (rw [if_pos (by omega)]) | (rw [if_neg (by omega), if_pos (by omega)]) | (rw [if_neg (by omega), if_neg (by omega)]))) dJ13_compare_74951_21
  · skip
    refine g_iconst F dJ13_compare_74951_6 ?_
    refine g_goto F (tgt := 21) dJ13_compare_74951_7 (by decide) ?_
    exact g_zretR F rfl rfl (congrArg (fun z => some (iv z)) (show (-1 : Int) = cmpZ x y by unfold cmpZ; first | (rw [if_pos (by omega)]) | (rw [if_neg (by omega), if_pos (by omega)]) | (rw [if_neg (by omega), if_neg (by omega)]))) dJ13_compare_74951_21

set_option maxHeartbeats 4000000 in
set_option maxRecDepth 100000 in
theorem kJ9_floorDiv_f86c9 (l : Launch) (D : va_G) (cA : Nat → ClassId) (x : Int) (y : Int) (hx : -9223372036854775808 < x ∧ x ≤ 9223372036854775807) (hy : 0 < y ∧ y ≤ 9223372036854775807) : CR l yJ9_floorDiv_f86c9 wsJ9_floorDiv_f86c9 ({ frames := 0, cells := 0, slots := 0, locals := 0 }) D cA [jv (x), jv (y)] ([]) (fun ov => ov = some (jv (floorZ x y))) := by
  refine CR.mk (cc := cJ9_floorDiv_f86c9) (maxL := 6) (ret := (some .long)) (by decide +kernel) rfl (Nat.le_of_ble_eq_true rfl) ?_
  intro p_ e_ s_ m_ b_ me_ c_ F
  have hV := @IR_P D s_
  refine g_lsub ([(0, jv (x)), (2, jv (y))]) [0, 1] rfl ?_
  refine g_lload_n F 0 rfl rfl dJ9_floorDiv_f86c9_0 ?_
  refine g_lload_n F 1 rfl rfl dJ9_floorDiv_f86c9_1 ?_
  refine g_ldiv F ⟨by omega, by omega⟩ ⟨by omega, by omega⟩ (by omega) (tdiv_64 ⟨by omega, by omega⟩ (by omega) (by omega)) dJ9_floorDiv_f86c9_2 ?_
  refine g_lstore F ([(4, jv (Int.tdiv x y)), (0, jv (x)), (2, jv (y))]) rfl (by decide) dJ9_floorDiv_f86c9_3 ?_
  refine g_lload_n F 1 rfl rfl dJ9_floorDiv_f86c9_5 ?_
  refine g_lload_n F 2 rfl rfl dJ9_floorDiv_f86c9_6 ?_
  refine g_lxor_ge F (tgt := 27) dJ9_floorDiv_f86c9_7 dJ9_floorDiv_f86c9_8 dJ9_floorDiv_f86c9_9 dJ9_floorDiv_f86c9_10 (by decide) ⟨by omega, by omega⟩ ⟨by omega, by omega⟩ (by omega) (fun c_1 => ?_) (fun c_1 => ?_)
  · skip
    refine g_lload F 0 rfl dJ9_floorDiv_f86c9_27 ?_
    exact g_lretR F rfl (congrArg (fun z => some (jv z)) (show (Int.tdiv x y : Int) = floorZ x y by unfold floorZ; first | (rw [if_pos (by assumption)]) | (rw [if_neg (by assumption), if_pos (by assumption)]) | (rw [if_neg (by assumption), if_neg (by assumption)]))) dJ9_floorDiv_f86c9_29
  · skip
    refine g_lload F 0 rfl dJ9_floorDiv_f86c9_13 ?_
    refine g_lload_n F 2 rfl rfl dJ9_floorDiv_f86c9_15 ?_
    refine g_lmul F dJ9_floorDiv_f86c9_16 ?_
    refine g_lload_n F 1 rfl rfl dJ9_floorDiv_f86c9_17 ?_
    refine g_lcmp_eq F (tgt := 27) dJ9_floorDiv_f86c9_18 dJ9_floorDiv_f86c9_19 (by decide) (fl_mul ⟨by omega, by omega⟩ (by omega) (by omega)) ⟨by omega, by omega⟩ (fun c_2 => ?_) (fun c_2 => ?_)
    · skip
      refine g_lload F 0 rfl dJ9_floorDiv_f86c9_27 ?_
      exact g_lretR F rfl (congrArg (fun z => some (jv z)) (show (Int.tdiv x y : Int) = floorZ x y by unfold floorZ; first | (rw [if_pos (by assumption)]) | (rw [if_neg (by assumption), if_pos (by assumption)]) | (rw [if_neg (by assumption), if_neg (by assumption)]))) dJ9_floorDiv_f86c9_29
    · skip
      refine g_lload F 0 rfl dJ9_floorDiv_f86c9_22 ?_
      refine g_lconst F (z := 1) dJ9_floorDiv_f86c9_24 (by decide) ?_
      refine g_lsub2 F dJ9_floorDiv_f86c9_25 ?_
      exact g_lretR F rfl (congrArg (fun z => some (jv z)) (show ((Int.tdiv x y) - 1 : Int) = floorZ x y by unfold floorZ; first | (rw [if_pos (by assumption)]) | (rw [if_neg (by assumption), if_pos (by assumption)]) | (rw [if_neg (by assumption), if_neg (by assumption)]))) dJ9_floorDiv_f86c9_26

set_option maxHeartbeats 4000000 in
set_option maxRecDepth 100000 in
theorem kJ9_floorDiv_7cf53 (l : Launch) (D : va_G) (cA : Nat → ClassId) (x : Int) (y : Int) (hx : -2147483648 < x ∧ x ≤ 2147483647) (hy : 0 < y ∧ y ≤ 2147483647) : CR l yJ9_floorDiv_7cf53 wsJ9_floorDiv_7cf53 ({ frames := 0, cells := 0, slots := 0, locals := 0 }) D cA [iv (x), iv (y)] ([]) (fun ov => ov = some (iv (floorZ x y))) := by
  refine CR.mk (cc := cJ9_floorDiv_7cf53) (maxL := 3) (ret := (some .int)) (by decide +kernel) rfl (Nat.le_of_ble_eq_true rfl) ?_
  intro p_ e_ s_ m_ b_ me_ c_ F
  have hV := @IR_P D s_
  refine g_lsub ([(0, iv (x)), (1, iv (y))]) [0, 1] rfl ?_
  refine g_iload_n F 0 rfl rfl dJ9_floorDiv_7cf53_0 ?_
  refine g_iload_n F 1 rfl rfl dJ9_floorDiv_7cf53_1 ?_
  refine g_idiv F ⟨by omega, by omega⟩ ⟨by omega, by omega⟩ (by omega) (by omega) dJ9_floorDiv_7cf53_2 ?_
  refine g_istore_n F ([(2, iv (Int.tdiv x y)), (0, iv (x)), (1, iv (y))]) rfl rfl (by decide) dJ9_floorDiv_7cf53_3 ?_
  refine g_iload_n F 1 rfl rfl dJ9_floorDiv_7cf53_4 ?_
  refine g_iload_n F 2 rfl rfl dJ9_floorDiv_7cf53_5 ?_
  refine g_ixor_ge F (tgt := 21) dJ9_floorDiv_7cf53_6 dJ9_floorDiv_7cf53_7 (by decide) ⟨by omega, by omega⟩ ⟨by omega, by omega⟩ (by omega) (fun c_1 => ?_) (fun c_1 => ?_)
  · skip
    refine g_iload_n F 0 rfl rfl dJ9_floorDiv_7cf53_21 ?_
    exact g_zretR F rfl rfl (congrArg (fun z => some (iv z)) (show (Int.tdiv x y : Int) = floorZ x y by unfold floorZ; first | (rw [if_pos (by assumption)]) | (rw [if_neg (by assumption), if_pos (by assumption)]) | (rw [if_neg (by assumption), if_neg (by assumption)]))) dJ9_floorDiv_7cf53_22
  · skip
    refine g_iload_n F 0 rfl rfl dJ9_floorDiv_7cf53_10 ?_
    refine g_iload_n F 2 rfl rfl dJ9_floorDiv_7cf53_11 ?_
    refine g_imul F dJ9_floorDiv_7cf53_12 ?_
    refine g_iload_n F 1 rfl rfl dJ9_floorDiv_7cf53_13 ?_
    refine g_icmp_eq F (tgt := 21) dJ9_floorDiv_7cf53_14 (by decide) (fl_mul32 ⟨by omega, by omega⟩ (by omega) (by omega)) ⟨by omega, by omega⟩ (fun c_2 => ?_) (fun c_2 => ?_)
    · skip
      refine g_iload_n F 0 rfl rfl dJ9_floorDiv_7cf53_21 ?_
      exact g_zretR F rfl rfl (congrArg (fun z => some (iv z)) (show (Int.tdiv x y : Int) = floorZ x y by unfold floorZ; first | (rw [if_pos (by assumption)]) | (rw [if_neg (by assumption), if_pos (by assumption)]) | (rw [if_neg (by assumption), if_neg (by assumption)]))) dJ9_floorDiv_7cf53_22
    · skip
      refine g_iload_n F 0 rfl rfl dJ9_floorDiv_7cf53_17 ?_
      refine g_iconst F dJ9_floorDiv_7cf53_18 ?_
      refine g_isub F dJ9_floorDiv_7cf53_19 ?_
      exact g_zretR F rfl rfl (congrArg (fun z => some (iv z)) (show ((Int.tdiv x y) - 1 : Int) = floorZ x y by unfold floorZ; first | (rw [if_pos (by assumption)]) | (rw [if_neg (by assumption), if_pos (by assumption)]) | (rw [if_neg (by assumption), if_neg (by assumption)]))) dJ9_floorDiv_7cf53_20

set_option maxHeartbeats 4000000 in
set_option maxRecDepth 100000 in
theorem kX6_commonDivisor (l : Launch) (D : va_G) (cA : Nat → ClassId) (a : Int) (b : Int) (ha : -9223372036854775808 < a ∧ a ≤ 9223372036854775807) (hb : -9223372036854775808 < b ∧ b ≤ 9223372036854775807) : CR l yX6_commonDivisor wsX6_commonDivisor ({ frames := 1, cells := 0, slots := 0, locals := 24 }) D cA [jv (a), jv (b)] ([]) (fun ov => ov = some (jv ((Int.gcd a b : Nat) : Int))) := by
  refine CR.mk (cc := cX6_commonDivisor) (maxL := 11) (ret := (some .long)) (by decide +kernel) rfl (Nat.le_of_ble_eq_true rfl) ?_
  intro p_ e_ s_ m_ b_ me_ c_ F
  have hV := @IR_P D s_
  refine g_lsub ([(0, jv (a)), (2, jv (b))]) [0, 1] rfl ?_
  refine g_lload_n F 0 rfl rfl dX6_commonDivisor_0 ?_
  refine g_mabs F ⟨by omega, by omega⟩ (List.mem_of_getElem? (i := 1) rfl) (List.mem_of_getElem? (i := 2) rfl) (List.mem_of_getElem? (i := 3) rfl) (List.mem_of_getElem? (i := 4) rfl) (Nat.le_of_ble_eq_true rfl) (Nat.le_of_ble_eq_true rfl) (Nat.le_of_ble_eq_true rfl) (Nat.le_of_ble_eq_true rfl) dX6_commonDivisor_1 ?_
  refine g_lstore F ([(4, jv (((a.natAbs : Nat) : Int))), (0, jv (a)), (2, jv (b))]) rfl (by decide) dX6_commonDivisor_4 ?_
  refine g_lload_n F 2 rfl rfl dX6_commonDivisor_6 ?_
  refine g_mabs F ⟨by omega, by omega⟩ (List.mem_of_getElem? (i := 1) rfl) (List.mem_of_getElem? (i := 2) rfl) (List.mem_of_getElem? (i := 3) rfl) (List.mem_of_getElem? (i := 4) rfl) (Nat.le_of_ble_eq_true rfl) (Nat.le_of_ble_eq_true rfl) (Nat.le_of_ble_eq_true rfl) (Nat.le_of_ble_eq_true rfl) dX6_commonDivisor_7 ?_
  refine g_lstore F ([(6, jv (((b.natAbs : Nat) : Int))), (4, jv (((a.natAbs : Nat) : Int))), (0, jv (a)), (2, jv (b))]) rfl (by decide) dX6_commonDivisor_10 ?_
  refine g_iconst F dX6_commonDivisor_12 ?_
  refine g_istore F ([(8, iv (0)), (6, jv (((b.natAbs : Nat) : Int))), (4, jv (((a.natAbs : Nat) : Int))), (0, jv (a)), (2, jv (b))]) rfl (by decide) dX6_commonDivisor_13 ?_
  have lp15 : ∀ (n : Nat) (k : Nat) (X : Nat) (Y : Nat) (hk : k ≤ 200) (he : euI k X Y) (hg : Nat.gcd X Y = Int.gcd a b) (hX : X ≤ 9223372036854775807) (hY : Y ≤ 9223372036854775807), 200 - k < n → GW p_ l e_ (headSpec wsX6_commonDivisor ({ frames := 1, cells := 0, slots := 0, locals := 24 })).room s_ m_ ([jv (a), jv (b)]).toArray b_ me_ c_ (MQ b_ (Qr (fun ov => ov = some (jv ((Int.gcd a b : Nat) : Int)))) ([jv (a), jv (b)]).toArray s_ 0 0 (fun _ => False)) (IR D s_) 11 0 0 ([]) ([(0, jv (a)), (2, jv (b)), (4, jv (((X : Nat) : Int))), (6, jv (((Y : Nat) : Int))), (8, iv (((k : Nat) : Int)))]) [] 15 := by
    intro n; induction n with
    | zero => intro k X Y; intros; omega
    | succ n ih15 =>
      intro k X Y hk he hg hX hY hmu15
      refine g_iload F 4 rfl dX6_commonDivisor_15 ?_
      refine g_sipush F dX6_commonDivisor_17 (by decide) ?_
      refine g_icmp_ge F (tgt := 51) dX6_commonDivisor_20 (by decide) ⟨by omega, by omega⟩ ⟨by decide, by decide⟩ (fun c_1 => ?_) (fun c_1 => ?_)
      · skip
        refine g_lload F 2 rfl dX6_commonDivisor_51 ?_
        exact g_lretR F rfl (congrArg (fun z => some (jv z)) (show (((X : Nat) : Int) : Int) = ((Int.gcd a b : Nat) : Int) by (have hz : Y = 0 := by first | omega | exact euI_end he (by omega)); subst hz; rw [Nat.gcd_zero_right] at hg; rw [hg])) dX6_commonDivisor_53
      · skip
        refine g_lload F 3 rfl dX6_commonDivisor_23 ?_
        refine g_lconst F (z := 0) dX6_commonDivisor_25 (by decide) ?_
        refine g_lcmp_eq F (tgt := 51) dX6_commonDivisor_26 dX6_commonDivisor_27 (by decide) ⟨by omega, by omega⟩ ⟨by decide, by decide⟩ (fun c_2 => ?_) (fun c_2 => ?_)
        · skip
          refine g_lload F 2 rfl dX6_commonDivisor_51 ?_
          exact g_lretR F rfl (congrArg (fun z => some (jv z)) (show (((X : Nat) : Int) : Int) = ((Int.gcd a b : Nat) : Int) by (have hz : Y = 0 := by first | omega | exact euI_end he (by omega)); subst hz; rw [Nat.gcd_zero_right] at hg; rw [hg])) dX6_commonDivisor_53
        · skip
          refine g_lload F 2 rfl dX6_commonDivisor_30 ?_
          refine g_lload F 3 rfl dX6_commonDivisor_32 ?_
          refine g_lrem F ⟨⟨by omega, by omega⟩, by omega⟩ ⟨by omega, by omega⟩ (by omega) dX6_commonDivisor_34 ?_
          refine g_lstore F ([(9, jv (Int.tmod (((X : Nat) : Int)) (((Y : Nat) : Int)))), (0, jv (a)), (2, jv (b)), (4, jv (((X : Nat) : Int))), (6, jv (((Y : Nat) : Int))), (8, iv (((k : Nat) : Int)))]) rfl (by decide) dX6_commonDivisor_35 ?_
          refine g_lload F 4 rfl dX6_commonDivisor_37 ?_
          refine g_lstore F ([(4, jv (((Y : Nat) : Int))), (9, jv (Int.tmod (((X : Nat) : Int)) (((Y : Nat) : Int)))), (0, jv (a)), (2, jv (b)), (6, jv (((Y : Nat) : Int))), (8, iv (((k : Nat) : Int)))]) rfl (by decide) dX6_commonDivisor_39 ?_
          refine g_lload F 1 rfl dX6_commonDivisor_41 ?_
          refine g_lstore F ([(6, jv (Int.tmod (((X : Nat) : Int)) (((Y : Nat) : Int)))), (4, jv (((Y : Nat) : Int))), (9, jv (Int.tmod (((X : Nat) : Int)) (((Y : Nat) : Int)))), (0, jv (a)), (2, jv (b)), (8, iv (((k : Nat) : Int)))]) rfl (by decide) dX6_commonDivisor_43 ?_
          refine g_iinc F 5 rfl ([(8, iv ((((k : Nat) : Int)) + 1)), (6, jv (Int.tmod (((X : Nat) : Int)) (((Y : Nat) : Int)))), (4, jv (((Y : Nat) : Int))), (9, jv (Int.tmod (((X : Nat) : Int)) (((Y : Nat) : Int)))), (0, jv (a)), (2, jv (b))]) rfl (by decide) dX6_commonDivisor_45 ?_
          refine g_goto F (tgt := 15) dX6_commonDivisor_48 (by decide) ?_
          refine g_lsub ([(0, jv (a)), (2, jv (b)), (4, jv (((Y : Nat) : Int))), (6, jv (Int.tmod (((X : Nat) : Int)) (((Y : Nat) : Int)))), (8, iv ((((k : Nat) : Int)) + 1))]) [4, 5, 2, 1, 0] rfl ?_
          exact ih15 (k + 1) Y (X % Y) (by omega) (euI_step he (by omega)) (gcd_step hg) (hY) (Nat.le_trans (Nat.mod_le X Y) hX) (by omega)
  refine g_lsub ([(0, jv (a)), (2, jv (b)), (4, jv (((a.natAbs : Nat) : Int))), (6, jv (((b.natAbs : Nat) : Int))), (8, iv (0))]) [3, 4, 2, 1, 0] rfl ?_
  exact lp15 (_ + 1) 0 a.natAbs b.natAbs (by omega) (euI_0 ha hb) (rfl) (by omega) (by omega) (Nat.lt_succ_self _)

set_option maxHeartbeats 4000000 in
set_option maxRecDepth 100000 in
theorem kX6_inLowestTerms (l : Launch) (D : va_G) (cA : Nat → ClassId) (a : Int) (b : Int) (q : Int) (ha : -9223372036854775808 < a ∧ a ≤ 9223372036854775807) (hb : 0 < b ∧ b ≤ 9223372036854775807) (hq : q = 0 ∨ q = 1) : CR l yX6_inLowestTerms wsX6_inLowestTerms ({ frames := 2, cells := 0, slots := 0, locals := 54 }) D cA [jv (a), jv (b), iv (q)] ([]) (fun ov => ov = some (jv (lowZ a b q))) := by
  refine CR.mk (cc := cX6_inLowestTerms) (maxL := 7) (ret := (some .long)) (by decide +kernel) rfl (Nat.le_of_ble_eq_true rfl) ?_
  intro p_ e_ s_ m_ b_ me_ c_ F
  have hV := @IR_P D s_
  have hgp := gcd_pos_of a (show b ≠ 0 by omega)
  have hgl := gcd_le_of a (show 0 < b by omega)
  refine g_lsub ([(0, jv (a)), (2, jv (b)), (4, iv (q))]) [0, 1, 2] rfl ?_
  refine g_lload_n F 0 rfl rfl dX6_inLowestTerms_0 ?_
  refine g_lload_n F 1 rfl rfl dX6_inLowestTerms_1 ?_
  refine g_callRS F hV (As := [jv (a), jv (b)]) (rest := []) (kX6_commonDivisor l D cA a b (by omega) (by omega)) (va_cwS 2 F.2.2.2.2.1 gX6_inLowestTerms_X6_commonDivisor rfl rfl rfl (by decide +kernel) ⟨Nat.le_of_ble_eq_true rfl, Nat.le_of_ble_eq_true rfl⟩) [] rfl rfl rfl (Nat.le_of_ble_eq_true rfl) ⟨Nat.le_of_ble_eq_true rfl, Nat.le_of_ble_eq_true rfl⟩ dX6_inLowestTerms_2 (fun v hv => ?_)
  subst hv
  refine g_eq (st' := [jv (((Int.gcd a b : Nat) : Int))]) rfl rfl rfl ?_
  refine g_lstore F ([(5, jv (((Int.gcd a b : Nat) : Int))), (0, jv (a)), (2, jv (b)), (4, iv (q))]) rfl (by decide) dX6_inLowestTerms_5 ?_
  refine g_lload F 0 rfl dX6_inLowestTerms_7 ?_
  refine g_lconst F (z := 0) dX6_inLowestTerms_9 (by decide) ?_
  refine g_lcmp_ne F (tgt := 18) dX6_inLowestTerms_10 dX6_inLowestTerms_11 (by decide) ⟨by omega, by omega⟩ ⟨by decide, by decide⟩ (fun c_1 => ?_) (fun c_1 => ?_)
  · skip
    refine g_iload F 3 rfl dX6_inLowestTerms_18 ?_
    refine g_if_ne F (tgt := 27) dX6_inLowestTerms_20 (by decide) ⟨by omega, by omega⟩ (fun c_2 => ?_) (fun c_2 => ?_)
    · skip
      refine g_lload_n F 2 rfl rfl dX6_inLowestTerms_27 ?_
      refine g_lload F 0 rfl dX6_inLowestTerms_28 ?_
      refine g_ldiv F ⟨by omega, by omega⟩ ⟨by omega, by omega⟩ (by omega) (tdiv_64 ⟨by omega, by omega⟩ (by omega) (by omega)) dX6_inLowestTerms_30 ?_
      exact g_lretR F rfl (congrArg (fun z => some (jv z)) (show (Int.tdiv b (((Int.gcd a b : Nat) : Int)) : Int) = lowZ a b q by unfold lowZ; rw [if_neg (by omega)]; first | (rw [if_pos (by omega)]) | (rw [if_neg (by omega)]))) dX6_inLowestTerms_31
    · skip
      refine g_lload_n F 1 rfl rfl dX6_inLowestTerms_23 ?_
      refine g_goto F (tgt := 28) dX6_inLowestTerms_24 (by decide) ?_
      refine g_lload F 0 rfl dX6_inLowestTerms_28 ?_
      refine g_ldiv F ⟨by omega, by omega⟩ ⟨by omega, by omega⟩ (by omega) (tdiv_64 ⟨by omega, by omega⟩ (by omega) (by omega)) dX6_inLowestTerms_30 ?_
      exact g_lretR F rfl (congrArg (fun z => some (jv z)) (show (Int.tdiv a (((Int.gcd a b : Nat) : Int)) : Int) = lowZ a b q by unfold lowZ; rw [if_neg (by omega)]; first | (rw [if_pos (by omega)]) | (rw [if_neg (by omega)]))) dX6_inLowestTerms_31
  · skip
    exact absurd c_1 (by omega)
