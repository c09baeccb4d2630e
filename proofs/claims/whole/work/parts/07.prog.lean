-- ===== the worlds =====
abbrev wT (cA : Nat → ClassId) (a : Nat → Nat) (ce : Nat → Int) (ti : Nat → Int) (lo : Nat → Int) (hi : Nat → Int) (gl : Nat → Int) (sh : Nat → Int) (nc : Int) (nl : Int) (bel : Int) (far : Int) : va_W := [(a 0, .inr (5, [.ref (a 1), .ref (a 2), .ref (a 3), .ref (a 4), .ref (a 5), .ref (a 6), iv nc, iv nl, jv bel, iv far])), (a 1, aJ cA 108 ce), (a 2, aI cA 18 ti), (a 3, aI cA 5 lo), (a 4, aI cA 5 hi), (a 5, aI cA 5 gl), (a 6, aZ cA 5 sh)]
abbrev wP (cA : Nat → ClassId) (a : Nat → Nat) (kd : Nat → Int) (lo : Nat → Int) (hi : Nat → Int) (co : Nat → Int) (pa : Nat → Int) (rk : Nat → Int) (nu : Nat → Int) (ct : Nat → Int) (sa : Nat → Int) (nc : Int) (nr : Int) : va_W := [(a 0, .inr (2, [.ref (a 1), .ref (a 2), .ref (a 3), .ref (a 4), .ref (a 5), .ref (a 6), .ref (a 7), .ref (a 8), .ref (a 9), iv nc, iv nr])), (a 1, aI cA 5 kd), (a 2, aI cA 5 lo), (a 3, aI cA 5 hi), (a 4, aI cA 5 co), (a 5, aI cA 5 pa), (a 6, aI cA 7 rk), (a 7, aI cA 7 nu), (a 8, aI cA 7 ct), (a 9, aI cA 35 sa)]
abbrev wB (cA : Nat → ClassId) (a : Nat → Nat) (va : Nat → Int) (cost : Int) (bel : Int) (out : Int) : va_W := [(a 0, .inr (0, [.ref (a 1), jv cost, jv bel, iv out])), (a 1, aJ cA 5 va)]
abbrev wH (cA : Nat → ClassId) (a : Nat → Nat) (pl : Nat → Int) (pr : Nat → Int) (pb : Int) (qb : Int) : va_W := [(a 0, .inr (1, [.ref (a 1), .ref (a 2), jv pb, iv qb])), (a 1, aJ cA 5 pl), (a 2, aI cA 7 pr)]
abbrev wJ (cA : Nat → ClassId) (a : Nat → Nat) (pl : Nat → Int) : va_W := [(a 0, aJ cA 5 pl)]
theorem cntZ_succ (f : Nat → Bool) (n : Nat) : cntZ f (n + 1) = cntZ f n + (if f n then 1 else 0) := rfl
theorem setZ_succ (f : Nat → Int) (n : Nat) : setZ f (n + 1) = if f n = 1 then setZ f n ||| 1 <<< n else setZ f n := rfl
theorem shl1_lt {r : Nat} (h : r < 8) : 1 <<< r < 2147483648 := by
  have e : ∀ r, r < 8 → 1 <<< r < 2147483648 := by decide
  exact e r h
theorem cmpZ_spec {a b s : Int} (h : s = cmpZ a b) : (s = -1 ∧ a < b) ∨ (s = 0 ∧ a = b) ∨ (s = 1 ∧ b < a) := by
  unfold cmpZ at h
  split at h
  · exact Or.inl ⟨h, by assumption⟩
  · split at h
    · exact Or.inr (Or.inl ⟨h, by assumption⟩)
    · exact Or.inr (Or.inr ⟨h, by omega⟩)
set_option maxHeartbeats 4000000 in
set_option maxRecDepth 100000 in
theorem kX2_hasColumn (l : Launch) (D : va_G) (cA : Nat → ClassId) (a : Nat → Nat) (a_kd : Nat → Int) (a_lo : Nat → Int) (a_hi : Nat → Int) (a_co : Nat → Int) (a_pa : Nat → Int) (a_rk : Nat → Int) (a_nu : Nat → Int) (a_ct : Nat → Int) (a_sa : Nat → Int) (a_nc : Nat) (a_nr : Nat) (c : Int) (hc : -2147483648 ≤ c ∧ c ≤ 2147483647) (hnc : a_nc ≤ 5) : CR l yX2_hasColumn wsX2_hasColumn ({ frames := 0, cells := 0, slots := 0, locals := 0 }) D cA [.ref (a 0), iv (c)] (wP cA a (a_kd) (a_lo) (a_hi) (a_co) (a_pa) (a_rk) (a_nu) (a_ct) (a_sa) (((a_nc : Nat) : Int)) (((a_nr : Nat) : Int))) (fun ov => ov = some (iv (if 0 ≤ c ∧ c < a_nc then 1 else 0))) := by
  refine CR.mk (cc := cX2_hasColumn) (maxL := 2) (ret := (some .boolean)) (by decide +kernel) rfl (Nat.le_of_ble_eq_true rfl) ?_
  intro p_ e_ s_ m_ b_ me_ c_ F
  have hV := @IR_P D s_
  have iX2 : ∀ w ∈ u_ws RX2 TX2 11, w ∈ wsX2_hasColumn := by decide +kernel
  refine g_lsub ([(0, .ref (a 0)), (1, iv (c))]) [0, 1] rfl ?_
  refine g_iload_n F 1 rfl rfl dX2_hasColumn_0 ?_
  refine g_if_lt F (tgt := 21) dX2_hasColumn_1 (by decide) ⟨by omega, by omega⟩ (fun c_1 => ?_) (fun c_1 => ?_)
  · skip
    refine g_iconst F dX2_hasColumn_21 ?_
    exact g_zretR F rfl (nar_01 (Or.inl rfl)) (congrArg (fun z => some (iv z)) (show (0 : Int) = if 0 ≤ c ∧ c < a_nc then 1 else 0 by first | rfl | (rw [if_neg (by omega)]; done) | (rw [if_pos (by omega)]; done) | (exfalso; omega))) dX2_hasColumn_22
  · skip
    refine g_iload_n F 1 rfl rfl dX2_hasColumn_4 ?_
    refine g_aload_n F 0 rfl rfl dX2_hasColumn_5 ?_
    refine g_get F hV iX2 0 rfl rfl 9 (by decide) (List.mem_of_getElem? (i := 1) rfl) rfl dX2_hasColumn_6 ?_
    refine g_icmp_ge F (tgt := 21) dX2_hasColumn_9 (by decide) ⟨by omega, by omega⟩ ⟨by omega, by omega⟩ (fun c_2 => ?_) (fun c_2 => ?_)
    · skip
      refine g_iconst F dX2_hasColumn_21 ?_
      exact g_zretR F rfl (nar_01 (Or.inl rfl)) (congrArg (fun z => some (iv z)) (show (0 : Int) = if 0 ≤ c ∧ c < a_nc then 1 else 0 by first | rfl | (rw [if_neg (by omega)]; done) | (rw [if_pos (by omega)]; done) | (exfalso; omega))) dX2_hasColumn_22
    · skip
      refine g_iload_n F 1 rfl rfl dX2_hasColumn_12 ?_
      refine g_iconst F dX2_hasColumn_13 ?_
      refine g_icmp_ge F (tgt := 21) dX2_hasColumn_14 (by decide) ⟨by omega, by omega⟩ ⟨by decide, by decide⟩ (fun c_3 => ?_) (fun c_3 => ?_)
      · skip
        refine g_iconst F dX2_hasColumn_21 ?_
        exact g_zretR F rfl (nar_01 (Or.inl rfl)) (congrArg (fun z => some (iv z)) (show (0 : Int) = if 0 ≤ c ∧ c < a_nc then 1 else 0 by first | rfl | (rw [if_neg (by omega)]; done) | (rw [if_pos (by omega)]; done) | (exfalso; omega))) dX2_hasColumn_22
      · skip
        refine g_iconst F dX2_hasColumn_17 ?_
        refine g_goto F (tgt := 22) dX2_hasColumn_18 (by decide) ?_
        exact g_zretR F rfl (nar_01 (Or.inr rfl)) (congrArg (fun z => some (iv z)) (show (1 : Int) = if 0 ≤ c ∧ c < a_nc then 1 else 0 by first | rfl | (rw [if_neg (by omega)]; done) | (rw [if_pos (by omega)]; done) | (exfalso; omega))) dX2_hasColumn_22

set_option maxHeartbeats 4000000 in
set_option maxRecDepth 100000 in
theorem kX2_hasRow (l : Launch) (D : va_G) (cA : Nat → ClassId) (a : Nat → Nat) (a_kd : Nat → Int) (a_lo : Nat → Int) (a_hi : Nat → Int) (a_co : Nat → Int) (a_pa : Nat → Int) (a_rk : Nat → Int) (a_nu : Nat → Int) (a_ct : Nat → Int) (a_sa : Nat → Int) (a_nc : Nat) (a_nr : Nat) (c : Int) (hc : -2147483648 ≤ c ∧ c ≤ 2147483647) (hnr : a_nr ≤ 7) : CR l yX2_hasRow wsX2_hasRow ({ frames := 0, cells := 0, slots := 0, locals := 0 }) D cA [.ref (a 0), iv (c)] (wP cA a (a_kd) (a_lo) (a_hi) (a_co) (a_pa) (a_rk) (a_nu) (a_ct) (a_sa) (((a_nc : Nat) : Int)) (((a_nr : Nat) : Int))) (fun ov => ov = some (iv (if 0 ≤ c ∧ c < a_nr then 1 else 0))) := by
  refine CR.mk (cc := cX2_hasRow) (maxL := 2) (ret := (some .boolean)) (by decide +kernel) rfl (Nat.le_of_ble_eq_true rfl) ?_
  intro p_ e_ s_ m_ b_ me_ c_ F
  have hV := @IR_P D s_
  have iX2 : ∀ w ∈ u_ws RX2 TX2 11, w ∈ wsX2_hasRow := by decide +kernel
  refine g_lsub ([(0, .ref (a 0)), (1, iv (c))]) [0, 1] rfl ?_
  refine g_iload_n F 1 rfl rfl dX2_hasRow_0 ?_
  refine g_if_lt F (tgt := 22) dX2_hasRow_1 (by decide) ⟨by omega, by omega⟩ (fun c_1 => ?_) (fun c_1 => ?_)
  · skip
    refine g_iconst F dX2_hasRow_22 ?_
    exact g_zretR F rfl (nar_01 (Or.inl rfl)) (congrArg (fun z => some (iv z)) (show (0 : Int) = if 0 ≤ c ∧ c < a_nr then 1 else 0 by first | rfl | (rw [if_neg (by omega)]; done) | (rw [if_pos (by omega)]; done) | (exfalso; omega))) dX2_hasRow_23
  · skip
    refine g_iload_n F 1 rfl rfl dX2_hasRow_4 ?_
    refine g_aload_n F 0 rfl rfl dX2_hasRow_5 ?_
    refine g_get F hV iX2 0 rfl rfl 10 (by decide) (List.mem_of_getElem? (i := 1) rfl) rfl dX2_hasRow_6 ?_
    refine g_icmp_ge F (tgt := 22) dX2_hasRow_9 (by decide) ⟨by omega, by omega⟩ ⟨by omega, by omega⟩ (fun c_2 => ?_) (fun c_2 => ?_)
    · skip
      refine g_iconst F dX2_hasRow_22 ?_
      exact g_zretR F rfl (nar_01 (Or.inl rfl)) (congrArg (fun z => some (iv z)) (show (0 : Int) = if 0 ≤ c ∧ c < a_nr then 1 else 0 by first | rfl | (rw [if_neg (by omega)]; done) | (rw [if_pos (by omega)]; done) | (exfalso; omega))) dX2_hasRow_23
    · skip
      refine g_iload_n F 1 rfl rfl dX2_hasRow_12 ?_
      refine g_bipush F dX2_hasRow_13 (by decide) ?_
      refine g_icmp_ge F (tgt := 22) dX2_hasRow_15 (by decide) ⟨by omega, by omega⟩ ⟨by decide, by decide⟩ (fun c_3 => ?_) (fun c_3 => ?_)
      · skip
        refine g_iconst F dX2_hasRow_22 ?_
        exact g_zretR F rfl (nar_01 (Or.inl rfl)) (congrArg (fun z => some (iv z)) (show (0 : Int) = if 0 ≤ c ∧ c < a_nr then 1 else 0 by first | rfl | (rw [if_neg (by omega)]; done) | (rw [if_pos (by omega)]; done) | (exfalso; omega))) dX2_hasRow_23
      · skip
        refine g_iconst F dX2_hasRow_18 ?_
        refine g_goto F (tgt := 23) dX2_hasRow_19 (by decide) ?_
        exact g_zretR F rfl (nar_01 (Or.inr rfl)) (congrArg (fun z => some (iv z)) (show (1 : Int) = if 0 ≤ c ∧ c < a_nr then 1 else 0 by first | rfl | (rw [if_neg (by omega)]; done) | (rw [if_pos (by omega)]; done) | (exfalso; omega))) dX2_hasRow_23

set_option maxHeartbeats 4000000 in
set_option maxRecDepth 100000 in
theorem kX2_isWhole (l : Launch) (D : va_G) (cA : Nat → ClassId) (a : Nat → Nat) (a_kd : Nat → Int) (a_lo : Nat → Int) (a_hi : Nat → Int) (a_co : Nat → Int) (a_pa : Nat → Int) (a_rk : Nat → Int) (a_nu : Nat → Int) (a_ct : Nat → Int) (a_sa : Nat → Int) (a_nc : Nat) (a_nr : Nat) (c : Nat) (hc : c < 5) (hkd : ∀ j, 0 ≤ a_kd j ∧ a_kd j ≤ 2) : CR l yX2_isWhole wsX2_isWhole ({ frames := 0, cells := 0, slots := 0, locals := 0 }) D cA [.ref (a 0), iv (((c : Nat) : Int))] (wP cA a (a_kd) (a_lo) (a_hi) (a_co) (a_pa) (a_rk) (a_nu) (a_ct) (a_sa) (((a_nc : Nat) : Int)) (((a_nr : Nat) : Int))) (fun ov => ov = some (iv (if 1 ≤ a_kd c then 1 else 0))) := by
  refine CR.mk (cc := cX2_isWhole) (maxL := 2) (ret := (some .boolean)) (by decide +kernel) rfl (Nat.le_of_ble_eq_true rfl) ?_
  intro p_ e_ s_ m_ b_ me_ c_ F
  have hV := @IR_P D s_
  have iX2 : ∀ w ∈ u_ws RX2 TX2 11, w ∈ wsX2_isWhole := by decide +kernel
  refine g_lsub ([(0, .ref (a 0)), (1, iv (((c : Nat) : Int)))]) [0, 1] rfl ?_
  refine g_aload_n F 0 rfl rfl dX2_isWhole_0 ?_
  refine g_get F hV iX2 0 rfl rfl 0 (by decide) (List.mem_of_getElem? (i := 1) rfl) rfl dX2_isWhole_1 ?_
  refine g_iload_n F 1 rfl rfl dX2_isWhole_4 ?_
  have r_1 := hkd (c)
  refine g_iald F hV 1 rfl (c) (by omega) (by omega) (by decide) dX2_isWhole_5 ?_
  refine g_iconst F dX2_isWhole_6 ?_
  refine g_icmp_lt F (tgt := 14) dX2_isWhole_7 (by decide) ⟨by omega, by omega⟩ ⟨by decide, by decide⟩ (fun c_2 => ?_) (fun c_2 => ?_)
  · skip
    refine g_iconst F dX2_isWhole_14 ?_
    exact g_zretR F rfl (nar_01 (Or.inl rfl)) (congrArg (fun z => some (iv z)) (show (0 : Int) = if 1 ≤ a_kd c then 1 else 0 by first | rfl | (rw [if_neg (by omega)]; done) | (rw [if_pos (by omega)]; done) | (exfalso; omega))) dX2_isWhole_15
  · skip
    refine g_iconst F dX2_isWhole_10 ?_
    refine g_goto F (tgt := 15) dX2_isWhole_11 (by decide) ?_
    exact g_zretR F rfl (nar_01 (Or.inr rfl)) (congrArg (fun z => some (iv z)) (show (1 : Int) = if 1 ≤ a_kd c then 1 else 0 by first | rfl | (rw [if_neg (by omega)]; done) | (rw [if_pos (by omega)]; done) | (exfalso; omega))) dX2_isWhole_15

set_option maxHeartbeats 4000000 in
set_option maxRecDepth 100000 in
theorem kX2_isSwitch (l : Launch) (D : va_G) (cA : Nat → ClassId) (a : Nat → Nat) (a_kd : Nat → Int) (a_lo : Nat → Int) (a_hi : Nat → Int) (a_co : Nat → Int) (a_pa : Nat → Int) (a_rk : Nat → Int) (a_nu : Nat → Int) (a_ct : Nat → Int) (a_sa : Nat → Int) (a_nc : Nat) (a_nr : Nat) (c : Nat) (hc : c < 5) (hkd : ∀ j, 0 ≤ a_kd j ∧ a_kd j ≤ 2) : CR l yX2_isSwitch wsX2_isSwitch ({ frames := 0, cells := 0, slots := 0, locals := 0 }) D cA [.ref (a 0), iv (((c : Nat) : Int))] (wP cA a (a_kd) (a_lo) (a_hi) (a_co) (a_pa) (a_rk) (a_nu) (a_ct) (a_sa) (((a_nc : Nat) : Int)) (((a_nr : Nat) : Int))) (fun ov => ov = some (iv (if a_kd c = 2 then 1 else 0))) := by
  refine CR.mk (cc := cX2_isSwitch) (maxL := 2) (ret := (some .boolean)) (by decide +kernel) rfl (Nat.le_of_ble_eq_true rfl) ?_
  intro p_ e_ s_ m_ b_ me_ c_ F
  have hV := @IR_P D s_
  have iX2 : ∀ w ∈ u_ws RX2 TX2 11, w ∈ wsX2_isSwitch := by decide +kernel
  refine g_lsub ([(0, .ref (a 0)), (1, iv (((c : Nat) : Int)))]) [0, 1] rfl ?_
  refine g_aload_n F 0 rfl rfl dX2_isSwitch_0 ?_
  refine g_get F hV iX2 0 rfl rfl 0 (by decide) (List.mem_of_getElem? (i := 1) rfl) rfl dX2_isSwitch_1 ?_
  refine g_iload_n F 1 rfl rfl dX2_isSwitch_4 ?_
  have r_1 := hkd (c)
  refine g_iald F hV 1 rfl (c) (by omega) (by omega) (by decide) dX2_isSwitch_5 ?_
  refine g_iconst F dX2_isSwitch_6 ?_
  refine g_icmp_ne F (tgt := 14) dX2_isSwitch_7 (by decide) ⟨by omega, by omega⟩ ⟨by decide, by decide⟩ (fun c_2 => ?_) (fun c_2 => ?_)
  · skip
    refine g_iconst F dX2_isSwitch_14 ?_
    exact g_zretR F rfl (nar_01 (Or.inl rfl)) (congrArg (fun z => some (iv z)) (show (0 : Int) = if a_kd c = 2 then 1 else 0 by first | rfl | (rw [if_neg (by omega)]; done) | (rw [if_pos (by omega)]; done) | (exfalso; omega))) dX2_isSwitch_15
  · skip
    refine g_iconst F dX2_isSwitch_10 ?_
    refine g_goto F (tgt := 15) dX2_isSwitch_11 (by decide) ?_
    exact g_zretR F rfl (nar_01 (Or.inr rfl)) (congrArg (fun z => some (iv z)) (show (1 : Int) = if a_kd c = 2 then 1 else 0 by first | rfl | (rw [if_neg (by omega)]; done) | (rw [if_pos (by omega)]; done) | (exfalso; omega))) dX2_isSwitch_15

set_option maxHeartbeats 4000000 in
set_option maxRecDepth 100000 in
theorem kX2_shareOf (l : Launch) (D : va_G) (cA : Nat → ClassId) (a : Nat → Nat) (a_kd : Nat → Int) (a_lo : Nat → Int) (a_hi : Nat → Int) (a_co : Nat → Int) (a_pa : Nat → Int) (a_rk : Nat → Int) (a_nu : Nat → Int) (a_ct : Nat → Int) (a_sa : Nat → Int) (a_nc : Nat) (a_nr : Nat) (r : Nat) (c : Nat) (hr : r < 7) (hc : c < 5) : CR l yX2_shareOf wsX2_shareOf ({ frames := 0, cells := 0, slots := 0, locals := 0 }) D cA [.ref (a 0), iv (((r : Nat) : Int)), iv (((c : Nat) : Int))] (wP cA a (a_kd) (a_lo) (a_hi) (a_co) (a_pa) (a_rk) (a_nu) (a_ct) (a_sa) (((a_nc : Nat) : Int)) (((a_nr : Nat) : Int))) (fun ov => ov = some (iv (a_sa (r * 5 + c)))) := by
  refine CR.mk (cc := cX2_shareOf) (maxL := 3) (ret := (some .int)) (by decide +kernel) rfl (Nat.le_of_ble_eq_true rfl) ?_
  intro p_ e_ s_ m_ b_ me_ c_ F
  have hV := @IR_P D s_
  have iX2 : ∀ w ∈ u_ws RX2 TX2 11, w ∈ wsX2_shareOf := by decide +kernel
  refine g_lsub ([(0, .ref (a 0)), (1, iv (((r : Nat) : Int))), (2, iv (((c : Nat) : Int)))]) [0, 1, 2] rfl ?_
  refine g_aload_n F 0 rfl rfl dX2_shareOf_0 ?_
  refine g_get F hV iX2 0 rfl rfl 8 (by decide) (List.mem_of_getElem? (i := 1) rfl) rfl dX2_shareOf_1 ?_
  refine g_iload_n F 1 rfl rfl dX2_shareOf_4 ?_
  refine g_iconst F dX2_shareOf_5 ?_
  refine g_imul F dX2_shareOf_6 ?_
  refine g_iload_n F 2 rfl rfl dX2_shareOf_7 ?_
  refine g_iadd F dX2_shareOf_8 ?_
  refine g_iald F hV 9 rfl ((r * 5) + c) (by omega) (by omega) (by decide) dX2_shareOf_9 ?_
  exact g_zretR F rfl rfl (congrArg (fun z => some (iv z)) (show (a_sa ((r * 5) + c) : Int) = a_sa (r * 5 + c) by first | rfl | omega)) dX2_shareOf_10

set_option maxHeartbeats 4000000 in
set_option maxRecDepth 100000 in
theorem kX2_columnsOf (l : Launch) (D : va_G) (cA : Nat → ClassId) (a : Nat → Nat) (a_kd : Nat → Int) (a_lo : Nat → Int) (a_hi : Nat → Int) (a_co : Nat → Int) (a_pa : Nat → Int) (a_rk : Nat → Int) (a_nu : Nat → Int) (a_ct : Nat → Int) (a_sa : Nat → Int) (a_nc : Nat) (a_nr : Nat) (k : Int) (hnc : a_nc ≤ 5) (hkd : ∀ j, 0 ≤ a_kd j ∧ a_kd j ≤ 2) (hk : 0 ≤ k ∧ k ≤ 2) : CR l yX2_columnsOf wsX2_columnsOf ({ frames := 0, cells := 0, slots := 0, locals := 0 }) D cA [.ref (a 0), iv (k)] (wP cA a (a_kd) (a_lo) (a_hi) (a_co) (a_pa) (a_rk) (a_nu) (a_ct) (a_sa) (((a_nc : Nat) : Int)) (((a_nr : Nat) : Int))) (fun ov => ov = some (iv ((cntZ (fun j => decide (k ≤ a_kd j)) a_nc : Nat) : Int))) := by
  refine CR.mk (cc := cX2_columnsOf) (maxL := 4) (ret := (some .int)) (by decide +kernel) rfl (Nat.le_of_ble_eq_true rfl) ?_
  intro p_ e_ s_ m_ b_ me_ c_ F
  have hV := @IR_P D s_
  have iX2 : ∀ w ∈ u_ws RX2 TX2 11, w ∈ wsX2_columnsOf := by decide +kernel
  have hxl := cntZ_le (fun j => decide (k ≤ a_kd j))
  refine g_lsub ([(0, .ref (a 0)), (1, iv (k))]) [0, 1] rfl ?_
  refine g_iconst F dX2_columnsOf_0 ?_
  refine g_istore_n F ([(2, iv (0)), (0, .ref (a 0)), (1, iv (k))]) rfl rfl (by decide) dX2_columnsOf_1 ?_
  refine g_iconst F dX2_columnsOf_2 ?_
  refine g_istore_n F ([(3, iv (0)), (2, iv (0)), (0, .ref (a 0)), (1, iv (k))]) rfl rfl (by decide) dX2_columnsOf_3 ?_
  have lp4 : ∀ (n : Nat) (c : Nat) (x : Nat) (hc : c ≤ a_nc) (hx : x = cntZ (fun j => decide (k ≤ a_kd j)) c), a_nc - c < n → GW p_ l e_ (headSpec wsX2_columnsOf ({ frames := 0, cells := 0, slots := 0, locals := 0 })).room s_ m_ ([.ref (a 0), iv (k)]).toArray b_ me_ c_ (MQ b_ (Qr (fun ov => ov = some (iv ((cntZ (fun j => decide (k ≤ a_kd j)) a_nc : Nat) : Int)))) ([.ref (a 0), iv (k)]).toArray s_ 0 0 (fun _ => False)) (IR D s_) 4 0 0 (wP cA a (a_kd) (a_lo) (a_hi) (a_co) (a_pa) (a_rk) (a_nu) (a_ct) (a_sa) (((a_nc : Nat) : Int)) (((a_nr : Nat) : Int))) ([(0, .ref (a 0)), (1, iv (k)), (2, iv (((x : Nat) : Int))), (3, iv (((c : Nat) : Int)))]) [] 4 := by
    intro n; induction n with
    | zero => intro c x; intros; omega
    | succ n ih4 =>
      intro c x hc hx hmu4
      refine g_iload_n F 3 rfl rfl dX2_columnsOf_4 ?_
      refine g_aload_n F 0 rfl rfl dX2_columnsOf_5 ?_
      refine g_get F hV iX2 0 rfl rfl 9 (by decide) (List.mem_of_getElem? (i := 1) rfl) rfl dX2_columnsOf_6 ?_
      refine g_icmp_ge F (tgt := 31) dX2_columnsOf_9 (by decide) ⟨by omega, by omega⟩ ⟨by omega, by omega⟩ (fun c_1 => ?_) (fun c_1 => ?_)
      · skip
        refine g_iload_n F 2 rfl rfl dX2_columnsOf_31 ?_
        exact g_zretR F rfl rfl (congrArg (fun z => some (iv z)) (show (((x : Nat) : Int) : Int) = ((cntZ (fun j => decide (k ≤ a_kd j)) a_nc : Nat) : Int) by subst hx; congr 2; omega)) dX2_columnsOf_32
      · skip
        refine g_aload_n F 0 rfl rfl dX2_columnsOf_12 ?_
        refine g_get F hV iX2 0 rfl rfl 0 (by decide) (List.mem_of_getElem? (i := 2) rfl) rfl dX2_columnsOf_13 ?_
        refine g_iload_n F 3 rfl rfl dX2_columnsOf_16 ?_
        have r_2 := hkd (c)
        refine g_iald F hV 1 rfl (c) (by omega) (by omega) (by decide) dX2_columnsOf_17 ?_
        refine g_iload_n F 1 rfl rfl dX2_columnsOf_18 ?_
        refine g_icmp_lt F (tgt := 25) dX2_columnsOf_19 (by decide) ⟨by omega, by omega⟩ ⟨by omega, by omega⟩ (fun c_3 => ?_) (fun c_3 => ?_)
        · skip
          refine g_iinc F 3 rfl ([(3, iv ((((c : Nat) : Int)) + 1)), (0, .ref (a 0)), (1, iv (k)), (2, iv (((x : Nat) : Int)))]) rfl (by decide) dX2_columnsOf_25 ?_
          refine g_goto F (tgt := 4) dX2_columnsOf_28 (by decide) ?_
          refine g_lsub ([(0, .ref (a 0)), (1, iv (k)), (2, iv (((x : Nat) : Int))), (3, iv ((((c : Nat) : Int)) + 1))]) [1, 2, 3, 0] rfl ?_
          exact ih4 (c + 1) x (by omega) (by rw [hx, cntZ_succ]; first | (rw [if_pos (decide_eq_true (by omega))]) | (rw [if_neg (by rw [decide_eq_true_eq]; omega)]; rfl)) (by omega)
        · skip
          refine g_iinc F 2 rfl ([(2, iv ((((x : Nat) : Int)) + 1)), (0, .ref (a 0)), (1, iv (k)), (3, iv (((c : Nat) : Int)))]) rfl (by decide) dX2_columnsOf_22 ?_
          refine g_iinc F 3 rfl ([(3, iv ((((c : Nat) : Int)) + 1)), (2, iv ((((x : Nat) : Int)) + 1)), (0, .ref (a 0)), (1, iv (k))]) rfl (by decide) dX2_columnsOf_25 ?_
          refine g_goto F (tgt := 4) dX2_columnsOf_28 (by decide) ?_
          refine g_lsub ([(0, .ref (a 0)), (1, iv (k)), (2, iv ((((x : Nat) : Int)) + 1)), (3, iv ((((c : Nat) : Int)) + 1))]) [2, 3, 1, 0] rfl ?_
          exact ih4 (c + 1) (x + 1) (by omega) (by rw [hx, cntZ_succ]; first | (rw [if_pos (decide_eq_true (by omega))]) | (rw [if_neg (by rw [decide_eq_true_eq]; omega)]; rfl)) (by omega)
  refine g_lsub ([(0, .ref (a 0)), (1, iv (k)), (2, iv (0)), (3, iv (0))]) [2, 3, 1, 0] rfl ?_
  exact lp4 (_ + 1) 0 0 (by omega) (rfl) (Nat.lt_succ_self _)

set_option maxHeartbeats 4000000 in
set_option maxRecDepth 100000 in
theorem kX2_countingSet (l : Launch) (D : va_G) (cA : Nat → ClassId) (a : Nat → Nat) (a_kd : Nat → Int) (a_lo : Nat → Int) (a_hi : Nat → Int) (a_co : Nat → Int) (a_pa : Nat → Int) (a_rk : Nat → Int) (a_nu : Nat → Int) (a_ct : Nat → Int) (a_sa : Nat → Int) (a_nc : Nat) (a_nr : Nat) (hnr : a_nr ≤ 7) (hct : ∀ j, 0 ≤ a_ct j ∧ a_ct j ≤ 1) : CR l yX2_countingSet wsX2_countingSet ({ frames := 0, cells := 0, slots := 0, locals := 0 }) D cA [.ref (a 0)] (wP cA a (a_kd) (a_lo) (a_hi) (a_co) (a_pa) (a_rk) (a_nu) (a_ct) (a_sa) (((a_nc : Nat) : Int)) (((a_nr : Nat) : Int))) (fun ov => ov = some (iv ((setZ a_ct a_nr : Nat) : Int))) := by
  refine CR.mk (cc := cX2_countingSet) (maxL := 3) (ret := (some .int)) (by decide +kernel) rfl (Nat.le_of_ble_eq_true rfl) ?_
  intro p_ e_ s_ m_ b_ me_ c_ F
  have hV := @IR_P D s_
  have iX2 : ∀ w ∈ u_ws RX2 TX2 11, w ∈ wsX2_countingSet := by decide +kernel
  refine g_lsub ([(0, .ref (a 0))]) [0] rfl ?_
  refine g_iconst F dX2_countingSet_0 ?_
  refine g_istore_n F ([(1, iv (0)), (0, .ref (a 0))]) rfl rfl (by decide) dX2_countingSet_1 ?_
  refine g_iconst F dX2_countingSet_2 ?_
  refine g_istore_n F ([(2, iv (0)), (1, iv (0)), (0, .ref (a 0))]) rfl rfl (by decide) dX2_countingSet_3 ?_
  have lp4 : ∀ (n : Nat) (r : Nat) (x : Nat) (hr : r ≤ a_nr) (hx : x = setZ a_ct r), a_nr - r < n → GW p_ l e_ (headSpec wsX2_countingSet ({ frames := 0, cells := 0, slots := 0, locals := 0 })).room s_ m_ ([.ref (a 0)]).toArray b_ me_ c_ (MQ b_ (Qr (fun ov => ov = some (iv ((setZ a_ct a_nr : Nat) : Int)))) ([.ref (a 0)]).toArray s_ 0 0 (fun _ => False)) (IR D s_) 3 0 0 (wP cA a (a_kd) (a_lo) (a_hi) (a_co) (a_pa) (a_rk) (a_nu) (a_ct) (a_sa) (((a_nc : Nat) : Int)) (((a_nr : Nat) : Int))) ([(0, .ref (a 0)), (1, iv (((x : Nat) : Int))), (2, iv (((r : Nat) : Int)))]) [] 4 := by
    intro n; induction n with
    | zero => intro r x; intros; omega
    | succ n ih4 =>
      intro r x hr hx hmu4
      refine g_iload_n F 2 rfl rfl dX2_countingSet_4 ?_
      refine g_aload_n F 0 rfl rfl dX2_countingSet_5 ?_
      refine g_get F hV iX2 0 rfl rfl 10 (by decide) (List.mem_of_getElem? (i := 1) rfl) rfl dX2_countingSet_6 ?_
      refine g_icmp_ge F (tgt := 34) dX2_countingSet_9 (by decide) ⟨by omega, by omega⟩ ⟨by omega, by omega⟩ (fun c_1 => ?_) (fun c_1 => ?_)
      · skip
        refine g_iload_n F 1 rfl rfl dX2_countingSet_34 ?_
        exact g_zretR F rfl rfl (congrArg (fun z => some (iv z)) (show (((x : Nat) : Int) : Int) = ((setZ a_ct a_nr : Nat) : Int) by subst hx; congr 2; omega)) dX2_countingSet_35
      · skip
        refine g_aload_n F 0 rfl rfl dX2_countingSet_12 ?_
        refine g_get F hV iX2 0 rfl rfl 7 (by decide) (List.mem_of_getElem? (i := 2) rfl) rfl dX2_countingSet_13 ?_
        refine g_iload_n F 2 rfl rfl dX2_countingSet_16 ?_
        have r_2 := hct (r)
        refine g_iald F hV 8 rfl (r) (by omega) (by omega) (by decide) dX2_countingSet_17 ?_
        refine g_iconst F dX2_countingSet_18 ?_
        refine g_icmp_ne F (tgt := 28) dX2_countingSet_19 (by decide) ⟨by omega, by omega⟩ ⟨by decide, by decide⟩ (fun c_3 => ?_) (fun c_3 => ?_)
        · skip
          refine g_iinc F 2 rfl ([(2, iv ((((r : Nat) : Int)) + 1)), (0, .ref (a 0)), (1, iv (((x : Nat) : Int)))]) rfl (by decide) dX2_countingSet_28 ?_
          refine g_goto F (tgt := 4) dX2_countingSet_31 (by decide) ?_
          refine g_lsub ([(0, .ref (a 0)), (1, iv (((x : Nat) : Int))), (2, iv ((((r : Nat) : Int)) + 1))]) [1, 2, 0] rfl ?_
          exact ih4 (r + 1) x (by omega) (by rw [hx, setZ_succ]; first | (rw [if_pos (by omega)]) | (rw [if_neg (by omega)])) (by omega)
        · skip
          refine g_iload_n F 1 rfl rfl dX2_countingSet_22 ?_
          refine g_iconst F dX2_countingSet_23 ?_
          refine g_iload_n F 2 rfl rfl dX2_countingSet_24 ?_
          refine g_ishl F (a := 1) (b := r) rfl rfl (by omega) (by exact shl1_lt (by omega)) dX2_countingSet_25 ?_
          refine g_ior F (a := x) (b := (1 <<< r)) rfl rfl dX2_countingSet_26 ?_
          refine g_istore_n F ([(1, iv (((x ||| (1 <<< r) : Nat) : Int))), (0, .ref (a 0)), (2, iv (((r : Nat) : Int)))]) rfl rfl (by decide) dX2_countingSet_27 ?_
          refine g_iinc F 2 rfl ([(2, iv ((((r : Nat) : Int)) + 1)), (1, iv (((x ||| (1 <<< r) : Nat) : Int))), (0, .ref (a 0))]) rfl (by decide) dX2_countingSet_28 ?_
          refine g_goto F (tgt := 4) dX2_countingSet_31 (by decide) ?_
          refine g_lsub ([(0, .ref (a 0)), (1, iv (((x ||| (1 <<< r) : Nat) : Int))), (2, iv ((((r : Nat) : Int)) + 1))]) [2, 1, 0] rfl ?_
          exact ih4 (r + 1) (x ||| (1 <<< r)) (by omega) (by rw [hx, setZ_succ]; first | (rw [if_pos (by omega)]) | (rw [if_neg (by omega)])) (by omega)
  refine g_lsub ([(0, .ref (a 0)), (1, iv (0)), (2, iv (0))]) [2, 1, 0] rfl ?_
  exact lp4 (_ + 1) 0 0 (by omega) (rfl) (Nat.lt_succ_self _)

set_option maxHeartbeats 4000000 in
set_option maxRecDepth 100000 in
theorem kX2_sumIn (l : Launch) (D : va_G) (cA : Nat → ClassId) (a : Nat → Nat) (a_kd : Nat → Int) (a_lo : Nat → Int) (a_hi : Nat → Int) (a_co : Nat → Int) (a_pa : Nat → Int) (a_rk : Nat → Int) (a_nu : Nat → Int) (a_ct : Nat → Int) (a_sa : Nat → Int) (a_nc : Nat) (a_nr : Nat) (pj : Nat → Nat) (pj_pl : Nat → Int) (r : Nat) (hr : r < 7) (hnc : a_nc ≤ 5) (hsa : ∀ j, -9 ≤ a_sa j ∧ a_sa j ≤ 9) : CR l yX2_sumIn wsX2_sumIn ({ frames := 1, cells := 0, slots := 0, locals := 22 }) D cA [.ref (a 0), iv (((r : Nat) : Int)), .ref (pj 0)] (wP cA a (a_kd) (a_lo) (a_hi) (a_co) (a_pa) (a_rk) (a_nu) (a_ct) (a_sa) (((a_nc : Nat) : Int)) (((a_nr : Nat) : Int)) ++ wJ cA pj (pj_pl)) (fun ov => ov = some (jv (sumZ (fun j => a_sa (r * 5 + j) * pj_pl j) a_nc))) := by
  refine CR.mk (cc := cX2_sumIn) (maxL := 6) (ret := (some .long)) (by decide +kernel) rfl (Nat.le_of_ble_eq_true rfl) ?_
  intro p_ e_ s_ m_ b_ me_ c_ F
  have hV := @IR_P D s_
  have iX2 : ∀ w ∈ u_ws RX2 TX2 11, w ∈ wsX2_sumIn := by decide +kernel
  refine g_lsub ([(0, .ref (a 0)), (1, iv (((r : Nat) : Int))), (2, .ref (pj 0))]) [0, 1, 2] rfl ?_
  refine g_lconst F (z := 0) dX2_sumIn_0 (by decide) ?_
  refine g_lstore_n F ([(3, jv (0)), (0, .ref (a 0)), (1, iv (((r : Nat) : Int))), (2, .ref (pj 0))]) rfl rfl (by decide) dX2_sumIn_1 ?_
  refine g_iconst F dX2_sumIn_2 ?_
  refine g_istore F ([(5, iv (0)), (3, jv (0)), (0, .ref (a 0)), (1, iv (((r : Nat) : Int))), (2, .ref (pj 0))]) rfl (by decide) dX2_sumIn_3 ?_
  have lp5 : ∀ (n : Nat) (c : Nat) (x : Int) (hc : c ≤ a_nc) (hx : x = sumZ (fun j => a_sa (r * 5 + j) * pj_pl j) c), a_nc - c < n → GW p_ l e_ (headSpec wsX2_sumIn ({ frames := 1, cells := 0, slots := 0, locals := 22 })).room s_ m_ ([.ref (a 0), iv (((r : Nat) : Int)), .ref (pj 0)]).toArray b_ me_ c_ (MQ b_ (Qr (fun ov => ov = some (jv (sumZ (fun j => a_sa (r * 5 + j) * pj_pl j) a_nc)))) ([.ref (a 0), iv (((r : Nat) : Int)), .ref (pj 0)]).toArray s_ 0 0 (fun _ => False)) (IR D s_) 6 0 0 (wP cA a (a_kd) (a_lo) (a_hi) (a_co) (a_pa) (a_rk) (a_nu) (a_ct) (a_sa) (((a_nc : Nat) : Int)) (((a_nr : Nat) : Int)) ++ wJ cA pj (pj_pl)) ([(0, .ref (a 0)), (1, iv (((r : Nat) : Int))), (2, .ref (pj 0)), (3, jv (x)), (5, iv (((c : Nat) : Int)))]) [] 5 := by
    intro n; induction n with
    | zero => intro c x; intros; omega
    | succ n ih5 =>
      intro c x hc hx hmu5
      refine g_iload F 4 rfl dX2_sumIn_5 ?_
      refine g_aload_n F 0 rfl rfl dX2_sumIn_7 ?_
      refine g_get F hV iX2 0 rfl rfl 9 (by decide) (List.mem_of_getElem? (i := 1) rfl) rfl dX2_sumIn_8 ?_
      refine g_icmp_ge F (tgt := 43) dX2_sumIn_11 (by decide) ⟨by omega, by omega⟩ ⟨by omega, by omega⟩ (fun c_1 => ?_) (fun c_1 => ?_)
      · skip
        refine g_lload_n F 3 rfl rfl dX2_sumIn_43 ?_
        exact g_lretR F rfl (congrArg (fun z => some (jv z)) (show (x : Int) = sumZ (fun j => a_sa (r * 5 + j) * pj_pl j) a_nc by subst hx; congr 1; omega)) dX2_sumIn_44
      · skip
        refine g_iload F 4 rfl dX2_sumIn_14 ?_
        refine g_aload_n F 2 rfl rfl dX2_sumIn_16 ?_
        refine g_alen F hV 10 1 rfl rfl rfl dX2_sumIn_17 ?_
        refine g_icmp_ge F (tgt := 43) dX2_sumIn_18 (by decide) ⟨by omega, by omega⟩ ⟨by omega, by omega⟩ (fun c_2 => ?_) (fun c_2 => ?_)
        · skip
          refine g_lload_n F 3 rfl rfl dX2_sumIn_43 ?_
          exact g_lretR F rfl (congrArg (fun z => some (jv z)) (show (x : Int) = sumZ (fun j => a_sa (r * 5 + j) * pj_pl j) a_nc by subst hx; congr 1; omega)) dX2_sumIn_44
        · skip
          refine g_lload_n F 3 rfl rfl dX2_sumIn_21 ?_
          refine g_aload_n F 0 rfl rfl dX2_sumIn_22 ?_
          refine g_iload_n F 1 rfl rfl dX2_sumIn_23 ?_
          refine g_iload F 4 rfl dX2_sumIn_24 ?_
          have hs := hsa (r * 5 + c)
          refine g_callRV F hV (As := [iv (((r : Nat) : Int)), iv (((c : Nat) : Int))]) (rest := [jv (x)]) (kX2_shareOf l D cA a a_kd a_lo a_hi a_co a_pa a_rk a_nu a_ct a_sa a_nc a_nr r c (by omega) (by omega)) (cwV 2 F.2.2.2.2.1 gX2_sumIn_X2_shareOf rfl rfl rfl (by decide +kernel) ⟨Nat.le_of_ble_eq_true rfl, Nat.le_of_ble_eq_true rfl⟩) rfl rfl (q0 := 0) rfl [0, 1, 2, 3, 4, 5, 6, 7, 8, 9] rfl rfl rfl (Nat.le_of_ble_eq_true rfl) ⟨Nat.le_of_ble_eq_true rfl, Nat.le_of_ble_eq_true rfl⟩ dX2_sumIn_26 (fun v hv => ?_)
          subst hv
          refine g_eq (st' := [iv (a_sa (r * 5 + c)), jv (x)]) rfl rfl rfl ?_
          refine g_i2l F ⟨by omega, by omega⟩ dX2_sumIn_29 ?_
          refine g_aload_n F 2 rfl rfl dX2_sumIn_30 ?_
          refine g_iload F 4 rfl dX2_sumIn_31 ?_
          refine g_lald F hV 10 rfl (c) (by omega) (by omega) (by decide) dX2_sumIn_33 ?_
          refine g_lmul F dX2_sumIn_34 ?_
          refine g_ladd F dX2_sumIn_35 ?_
          refine g_lstore_n F ([(3, jv (x + ((a_sa (r * 5 + c)) * (pj_pl c)))), (0, .ref (a 0)), (1, iv (((r : Nat) : Int))), (2, .ref (pj 0)), (5, iv (((c : Nat) : Int)))]) rfl rfl (by decide) dX2_sumIn_36 ?_
          refine g_iinc F 4 rfl ([(5, iv ((((c : Nat) : Int)) + 1)), (3, jv (x + ((a_sa (r * 5 + c)) * (pj_pl c)))), (0, .ref (a 0)), (1, iv (((r : Nat) : Int))), (2, .ref (pj 0))]) rfl (by decide) dX2_sumIn_37 ?_
          refine g_goto F (tgt := 5) dX2_sumIn_40 (by decide) ?_
          refine g_lsub ([(0, .ref (a 0)), (1, iv (((r : Nat) : Int))), (2, .ref (pj 0)), (3, jv (x + ((a_sa (r * 5 + c)) * (pj_pl c)))), (5, iv ((((c : Nat) : Int)) + 1))]) [2, 3, 4, 1, 0] rfl ?_
          exact ih5 (c + 1) (x + ((a_sa (r * 5 + c)) * (pj_pl c))) (by omega) (by subst hx; rfl) (by omega)
  refine g_lsub ([(0, .ref (a 0)), (1, iv (((r : Nat) : Int))), (2, .ref (pj 0)), (3, jv (0)), (5, iv (0))]) [2, 3, 4, 1, 0] rfl ?_
  exact lp5 (_ + 1) 0 0 (by omega) (rfl) (Nat.lt_succ_self _)

set_option maxHeartbeats 4000000 in
set_option maxRecDepth 100000 in
theorem kX2_isKept (l : Launch) (D : va_G) (cA : Nat → ClassId) (a : Nat → Nat) (a_kd : Nat → Int) (a_lo : Nat → Int) (a_hi : Nat → Int) (a_co : Nat → Int) (a_pa : Nat → Int) (a_rk : Nat → Int) (a_nu : Nat → Int) (a_ct : Nat → Int) (a_sa : Nat → Int) (a_nc : Nat) (a_nr : Nat) (pj : Nat → Nat) (pj_pl : Nat → Int) (r : Nat) (bel : Int) (hr : r < 7) (hnc : a_nc ≤ 5) (hsa : ∀ j, -9 ≤ a_sa j ∧ a_sa j ≤ 9) (hnu : ∀ j, -198 ≤ a_nu j ∧ a_nu j ≤ 198) (hrk : ∀ j, 0 ≤ a_rk j ∧ a_rk j ≤ 2) (hs : -9223372036854775808 ≤ sumZ (fun j => a_sa (r * 5 + j) * pj_pl j) a_nc ∧ sumZ (fun j => a_sa (r * 5 + j) * pj_pl j) a_nc ≤ 9223372036854775807) (hb : -9223372036854775808 ≤ a_nu r * bel ∧ a_nu r * bel ≤ 9223372036854775807) : CR l yX2_isKept wsX2_isKept ({ frames := 2, cells := 0, slots := 0, locals := 47 }) D cA [.ref (a 0), iv (((r : Nat) : Int)), .ref (pj 0), jv (bel)] (wP cA a (a_kd) (a_lo) (a_hi) (a_co) (a_pa) (a_rk) (a_nu) (a_ct) (a_sa) (((a_nc : Nat) : Int)) (((a_nr : Nat) : Int)) ++ wJ cA pj (pj_pl)) (fun ov => ov = some (iv (if keptP (a_rk r) (sumZ (fun j => a_sa (r * 5 + j) * pj_pl j) a_nc) (a_nu r * bel) then 1 else 0))) := by
  refine CR.mk (cc := cX2_isKept) (maxL := 6) (ret := (some .boolean)) (by decide +kernel) rfl (Nat.le_of_ble_eq_true rfl) ?_
  intro p_ e_ s_ m_ b_ me_ c_ F
  have hV := @IR_P D s_
  have iX2 : ∀ w ∈ u_ws RX2 TX2 11, w ∈ wsX2_isKept := by decide +kernel
  refine g_lsub ([(0, .ref (a 0)), (1, iv (((r : Nat) : Int))), (2, .ref (pj 0)), (3, jv (bel))]) [0, 1, 2, 3] rfl ?_
  refine g_aload_n F 0 rfl rfl dX2_isKept_0 ?_
  refine g_iload_n F 1 rfl rfl dX2_isKept_1 ?_
  refine g_aload_n F 2 rfl rfl dX2_isKept_2 ?_
  refine g_callRV F hV (As := [iv (((r : Nat) : Int)), .ref (pj 0)]) (rest := []) (kX2_sumIn l D cA a a_kd a_lo a_hi a_co a_pa a_rk a_nu a_ct a_sa a_nc a_nr (fun _ => pj 0) pj_pl r (hr) (hnc) (hsa)) (cwV 2 F.2.2.2.2.1 gX2_isKept_X2_sumIn rfl rfl rfl (by decide +kernel) ⟨Nat.le_of_ble_eq_true rfl, Nat.le_of_ble_eq_true rfl⟩) rfl rfl (q0 := 0) rfl [0, 1, 2, 3, 4, 5, 6, 7, 8, 9, 10] rfl rfl rfl (Nat.le_of_ble_eq_true rfl) ⟨Nat.le_of_ble_eq_true rfl, Nat.le_of_ble_eq_true rfl⟩ dX2_isKept_3 (fun v hv => ?_)
  subst hv
  refine g_eq (st' := [jv (sumZ (fun j => a_sa (r * 5 + j) * pj_pl j) a_nc)]) rfl rfl rfl ?_
  refine g_aload_n F 0 rfl rfl dX2_isKept_6 ?_
  refine g_get F hV iX2 0 rfl rfl 6 (by decide) (List.mem_of_getElem? (i := 1) rfl) rfl dX2_isKept_7 ?_
  refine g_iload_n F 1 rfl rfl dX2_isKept_10 ?_
  have r_1 := hnu (r)
  refine g_iald F hV 7 rfl (r) (by omega) (by omega) (by decide) dX2_isKept_11 ?_
  refine g_i2l F ⟨by omega, by omega⟩ dX2_isKept_12 ?_
  refine g_lload_n F 3 rfl rfl dX2_isKept_13 ?_
  refine g_lmul F dX2_isKept_14 ?_
  refine g_callRS F hV (As := [jv (sumZ (fun j => a_sa (r * 5 + j) * pj_pl j) a_nc), jv ((a_nu r) * bel)]) (rest := []) (kJ13_compare_74951 l D cA (sumZ (fun j => a_sa (r * 5 + j) * pj_pl j) a_nc) ((a_nu r) * bel) (hs) (hb)) (va_cwS 2 F.2.2.2.2.1 gX2_isKept_J13_compare_74951 rfl rfl rfl (by decide +kernel) ⟨Nat.le_of_ble_eq_true rfl, Nat.le_of_ble_eq_true rfl⟩) [] rfl rfl rfl (Nat.le_of_ble_eq_true rfl) ⟨Nat.le_of_ble_eq_true rfl, Nat.le_of_ble_eq_true rfl⟩ dX2_isKept_15 (fun v hv => ?_)
  subst hv
  refine g_eq (st' := [iv (cmpZ (sumZ (fun j => a_sa (r * 5 + j) * pj_pl j) a_nc) ((a_nu r) * bel))]) rfl rfl rfl ?_
  obtain ⟨sd, hsd⟩ : ∃ y : Int, y = cmpZ (sumZ (fun j => a_sa (r * 5 + j) * pj_pl j) a_nc) ((a_nu r) * bel) := ⟨_, rfl⟩
  rw [← hsd]
  have hsd1 := cmpZ_spec hsd
  refine g_istore F ([(5, iv (sd)), (0, .ref (a 0)), (1, iv (((r : Nat) : Int))), (2, .ref (pj 0)), (3, jv (bel))]) rfl (by decide) dX2_isKept_18 ?_
  refine g_iload F 0 rfl dX2_isKept_20 ?_
  refine g_if_eq F (tgt := 44) dX2_isKept_22 (by decide) ⟨by omega, by omega⟩ (fun c_2 => ?_) (fun c_2 => ?_)
  · skip
    refine g_iconst F dX2_isKept_44 ?_
    refine g_goto F (tgt := 49) dX2_isKept_45 (by decide) ?_
    exact g_zretR F rfl (nar_01 (Or.inr rfl)) (congrArg (fun z => some (iv z)) (show (1 : Int) = if keptP (a_rk r) (sumZ (fun j => a_sa (r * 5 + j) * pj_pl j) a_nc) (a_nu r * bel) then 1 else 0 by first | rfl | (rw [if_neg (by unfold keptP; omega)]; done) | (rw [if_pos (by unfold keptP; omega)]; done) | (exfalso; omega))) dX2_isKept_49
  · skip
    refine g_aload_n F 1 rfl rfl dX2_isKept_25 ?_
    refine g_get F hV iX2 0 rfl rfl 5 (by decide) (List.mem_of_getElem? (i := 2) rfl) rfl dX2_isKept_26 ?_
    refine g_iload_n F 2 rfl rfl dX2_isKept_29 ?_
    have r_3 := hrk (r)
    refine g_iald F hV 6 rfl (r) (by omega) (by omega) (by decide) dX2_isKept_30 ?_
    refine g_iload F 0 rfl dX2_isKept_31 ?_
    refine g_if_ge F (tgt := 40) dX2_isKept_33 (by decide) ⟨by omega, by omega⟩ (fun c_4 => ?_) (fun c_4 => ?_)
    · skip
      refine g_iconst F dX2_isKept_40 ?_
      refine g_icmp_ne F (tgt := 48) dX2_isKept_41 (by decide) ⟨by omega, by omega⟩ ⟨by decide, by decide⟩ (fun c_5 => ?_) (fun c_5 => ?_)
      · skip
        refine g_iconst F dX2_isKept_48 ?_
        exact g_zretR F rfl (nar_01 (Or.inl rfl)) (congrArg (fun z => some (iv z)) (show (0 : Int) = if keptP (a_rk r) (sumZ (fun j => a_sa (r * 5 + j) * pj_pl j) a_nc) (a_nu r * bel) then 1 else 0 by first | rfl | (rw [if_neg (by unfold keptP; omega)]; done) | (rw [if_pos (by unfold keptP; omega)]; done) | (exfalso; omega))) dX2_isKept_49
      · skip
        refine g_iconst F dX2_isKept_44 ?_
        refine g_goto F (tgt := 49) dX2_isKept_45 (by decide) ?_
        exact g_zretR F rfl (nar_01 (Or.inr rfl)) (congrArg (fun z => some (iv z)) (show (1 : Int) = if keptP (a_rk r) (sumZ (fun j => a_sa (r * 5 + j) * pj_pl j) a_nc) (a_nu r * bel) then 1 else 0 by first | rfl | (rw [if_neg (by unfold keptP; omega)]; done) | (rw [if_pos (by unfold keptP; omega)]; done) | (exfalso; omega))) dX2_isKept_49
    · skip
      refine g_iconst F dX2_isKept_36 ?_
      refine g_goto F (tgt := 41) dX2_isKept_37 (by decide) ?_
      refine g_icmp_ne F (tgt := 48) dX2_isKept_41 (by decide) ⟨by omega, by omega⟩ ⟨by decide, by decide⟩ (fun c_6 => ?_) (fun c_6 => ?_)
      · skip
        refine g_iconst F dX2_isKept_48 ?_
        exact g_zretR F rfl (nar_01 (Or.inl rfl)) (congrArg (fun z => some (iv z)) (show (0 : Int) = if keptP (a_rk r) (sumZ (fun j => a_sa (r * 5 + j) * pj_pl j) a_nc) (a_nu r * bel) then 1 else 0 by first | rfl | (rw [if_neg (by unfold keptP; omega)]; done) | (rw [if_pos (by unfold keptP; omega)]; done) | (exfalso; omega))) dX2_isKept_49
      · skip
        refine g_iconst F dX2_isKept_44 ?_
        refine g_goto F (tgt := 49) dX2_isKept_45 (by decide) ?_
        exact g_zretR F rfl (nar_01 (Or.inr rfl)) (congrArg (fun z => some (iv z)) (show (1 : Int) = if keptP (a_rk r) (sumZ (fun j => a_sa (r * 5 + j) * pj_pl j) a_nc) (a_nu r * bel) then 1 else 0 by first | rfl | (rw [if_neg (by unfold keptP; omega)]; done) | (rw [if_pos (by unfold keptP; omega)]; done) | (exfalso; omega))) dX2_isKept_49
