abbrev wMO (cA : Nat → ClassId) (a : Nat → Nat) (nc : Int) (nr : Int) (ke : Int) (so : Int) (bu : Int) (bc : Int) (pu : Int) (qu : Int) (fs : Int) (cd : Int) (un : Int) (hb : Int) (pf : Int) (ef : Int) : va_W := [(a 0, .inr (7, [iv nc, .ref (a 1), .ref (a 2), .ref (a 3), .ref (a 4), .ref (a 5), iv nr, .ref (a 6), .ref (a 7), .ref (a 8), .ref (a 9), iv ke, iv so, .ref (a 20), jv bu, jv bc, .ref (a 23), jv pu, .ref (a 24), jv qu, .ref (a 10), iv fs, iv cd, .ref (a 11), .ref (a 12), .ref (a 13), .ref (a 14), .ref (a 15), .ref (a 16), jv un, .ref (a 17), .ref (a 18), .ref (a 19), iv hb, .ref (a 21), .ref (a 22), iv pf, iv ef]))]
abbrev wMP (cA : Nat → ClassId) (a : Nat → Nat) (kd : Nat → Int) (lo : Nat → Int) (hi : Nat → Int) (co : Nat → Int) (pa : Nat → Int) (rk : Nat → Int) (nu : Nat → Int) (ct : Nat → Int) (sa : Nat → Int) : va_W := [(a 1, aI cA 5 kd), (a 2, aI cA 5 lo), (a 3, aI cA 5 hi), (a 4, aI cA 5 co), (a 5, aI cA 5 pa), (a 6, aI cA 7 rk), (a 7, aI cA 7 nu), (a 8, aZ cA 7 ct), (a 9, aI cA 35 sa)]
abbrev wME (cA : Nat → ClassId) (a : Nat → Nat) (fr : Nat → Int) (cs : Nat → Int) (cn : Nat → Int) (ck : Nat → Int) (ch : Nat → Int) (tb : Nat → Int) (cr : Nat → Int) : va_W := [(a 10, aI cA 5 fr), (a 11, aI cA 100 cs), (a 12, aJ cA 20 cn), (a 13, aI cA 20 ck), (a 14, aI cA 5 ch), (a 15, aJ cA 30 tb), (a 16, aJ cA 5 cr)]
abbrev wMX (cA : Nat → ClassId) (a : Nat → Nat) (fx : Nat → Int) (fv : Nat → Int) (sn : Nat → Int) : va_W := [(a 17, aZ cA 5 fx), (a 18, aJ cA 5 fv), (a 19, aI cA 7 sn)]
abbrev wMB (cA : Nat → ClassId) (a : Nat → Nat) (be : Nat → Int) (tr : Nat → Int) (wy : Nat → Int) : va_W := [(a 20, aJ cA 5 be), (a 21, aJ cA 5 tr), (a 22, aI cA 32 wy)]
abbrev wMH (cA : Nat → ClassId) (a : Nat → Nat) (pl : Nat → Int) (pr : Nat → Int) : va_W := [(a 23, aJ cA 5 pl), (a 24, aJ cA 7 pr)]
theorem ite01 {p q : Prop} [Decidable p] [Decidable q] (h : p ↔ q) : (if p then (1 : Int) else 0) = if q then 1 else 0 := by
  by_cases hp : p
  · rw [if_pos hp, if_pos (h.mp hp)]
  · rw [if_neg hp, if_neg (fun z => hp (h.mpr z))]
theorem up_0 {f : Nat → Int} {k : Nat} {v : Int} (h : f k = v) : va_up f k v = f := by
  funext q
  by_cases e : q = k
  · subst e; rw [up_same, h]
  · rw [up_ne e]
set_option maxHeartbeats 4000000 in
set_option maxRecDepth 100000 in
theorem kX7_isIn (l : Launch) (D : va_G) (cA : Nat → ClassId) (v : Int) (x : Int) (y : Int) (hv : -2147483648 ≤ v ∧ v ≤ 2147483647) (hx : -2147483648 ≤ x ∧ x ≤ 2147483647) (hy : -2147483648 ≤ y ∧ y ≤ 2147483647) : CR l yX7_isIn wsX7_isIn ({ frames := 0, cells := 0, slots := 0, locals := 0 }) D cA [iv (v), iv (x), iv (y)] ([]) (fun ov => ov = some (iv (if x ≤ v ∧ v ≤ y then 1 else 0))) := by
  refine CR.mk (cc := cX7_isIn) (maxL := 3) (ret := (some .boolean)) (by decide +kernel) rfl (Nat.le_of_ble_eq_true rfl) ?_
  intro p_ e_ s_ m_ b_ me_ c_ F
  have hV := @IR_P D s_
  refine g_lsub ([(0, iv (v)), (1, iv (x)), (2, iv (y))]) [0, 1, 2] rfl ?_
  refine g_iload_n F 0 rfl rfl dX7_isIn_0 ?_
  refine g_iload_n F 1 rfl rfl dX7_isIn_1 ?_
  refine g_icmp_lt F (tgt := 14) dX7_isIn_2 (by decide) ⟨by omega, by omega⟩ ⟨by omega, by omega⟩ (fun c_1 => ?_) (fun c_1 => ?_)
  · skip
    refine g_iconst F dX7_isIn_14 ?_
    exact g_zretR F rfl (nar_01 (Or.inl rfl)) (congrArg (fun z => some (iv z)) (show (0 : Int) = if x ≤ v ∧ v ≤ y then 1 else 0 by first | rfl | (rw [if_neg (by omega)]; done) | (rw [if_pos (by omega)]; done) | (exfalso; omega))) dX7_isIn_15
  · skip
    refine g_iload_n F 0 rfl rfl dX7_isIn_5 ?_
    refine g_iload_n F 2 rfl rfl dX7_isIn_6 ?_
    refine g_icmp_gt F (tgt := 14) dX7_isIn_7 (by decide) ⟨by omega, by omega⟩ ⟨by omega, by omega⟩ (fun c_2 => ?_) (fun c_2 => ?_)
    · skip
      refine g_iconst F dX7_isIn_14 ?_
      exact g_zretR F rfl (nar_01 (Or.inl rfl)) (congrArg (fun z => some (iv z)) (show (0 : Int) = if x ≤ v ∧ v ≤ y then 1 else 0 by first | rfl | (rw [if_neg (by omega)]; done) | (rw [if_pos (by omega)]; done) | (exfalso; omega))) dX7_isIn_15
    · skip
      refine g_iconst F dX7_isIn_10 ?_
      refine g_goto F (tgt := 15) dX7_isIn_11 (by decide) ?_
      exact g_zretR F rfl (nar_01 (Or.inr rfl)) (congrArg (fun z => some (iv z)) (show (1 : Int) = if x ≤ v ∧ v ≤ y then 1 else 0 by first | rfl | (rw [if_neg (by omega)]; done) | (rw [if_pos (by omega)]; done) | (exfalso; omega))) dX7_isIn_15

set_option maxHeartbeats 4000000 in
set_option maxRecDepth 100000 in
theorem kX7_isColumn (l : Launch) (D : va_G) (cA : Nat → ClassId) (m : Nat → Nat) (m_nc : Nat) (m_nr : Nat) (m_ke : Int) (m_so : Int) (m_bu : Int) (m_bc : Int) (m_pu : Int) (m_qu : Int) (m_fs : Int) (m_cd : Int) (m_un : Int) (m_hb : Int) (m_pf : Int) (m_ef : Int) (c : Int) (hc : -2147483648 ≤ c ∧ c ≤ 2147483647) (qnc : m_nc ≤ 5) : CR l yX7_isColumn wsX7_isColumn ({ frames := 1, cells := 0, slots := 0, locals := 22 }) D cA [.ref (m 0), iv (c)] (wMO cA m (((m_nc : Nat) : Int)) (((m_nr : Nat) : Int)) (m_ke) (m_so) (m_bu) (m_bc) (m_pu) (m_qu) (m_fs) (m_cd) (m_un) (m_hb) (m_pf) (m_ef)) (fun ov => ov = some (iv (if 0 ≤ c ∧ c < (m_nc : Int) then 1 else 0))) := by
  refine CR.mk (cc := cX7_isColumn) (maxL := 2) (ret := (some .boolean)) (by decide +kernel) rfl (Nat.le_of_ble_eq_true rfl) ?_
  intro p_ e_ s_ m_ b_ me_ c_ F
  have hV := @IR_P D s_
  have iX7 : ∀ w ∈ u_ws RX7 TX7 38, w ∈ wsX7_isColumn := by decide +kernel
  refine g_lsub ([(0, .ref (m 0)), (1, iv (c))]) [0, 1] rfl ?_
  refine g_iload_n F 1 rfl rfl dX7_isColumn_0 ?_
  refine g_iconst F dX7_isColumn_1 ?_
  refine g_aload_n F 0 rfl rfl dX7_isColumn_2 ?_
  refine g_get F hV iX7 0 rfl rfl 0 (by decide) (List.mem_of_getElem? (i := 1) rfl) rfl dX7_isColumn_3 ?_
  refine g_iconst F dX7_isColumn_6 ?_
  refine g_isub F dX7_isColumn_7 ?_
  refine g_callRS F hV (As := [iv (c), iv (0), iv ((((m_nc : Nat) : Int)) - 1)]) (rest := []) (kX7_isIn l D cA c 0 ((((m_nc : Nat) : Int)) - 1) (by omega) (by omega) (by omega)) (va_cwS 3 F.2.2.2.2.1 gX7_isColumn_X7_isIn rfl rfl rfl (by decide +kernel) ⟨Nat.le_of_ble_eq_true rfl, Nat.le_of_ble_eq_true rfl⟩) [] rfl rfl rfl (Nat.le_of_ble_eq_true rfl) ⟨Nat.le_of_ble_eq_true rfl, Nat.le_of_ble_eq_true rfl⟩ dX7_isColumn_8 (fun v hv => ?_)
  subst hv
  refine g_eq (st' := [iv (if 0 ≤ c ∧ c ≤ ((((m_nc : Nat) : Int)) - 1) then 1 else 0)]) rfl rfl rfl ?_
  exact g_zretR F rfl nar_b (congrArg (fun z => some (iv z)) (show (if 0 ≤ c ∧ c ≤ ((((m_nc : Nat) : Int)) - 1) then 1 else 0 : Int) = if 0 ≤ c ∧ c < (m_nc : Int) then 1 else 0 by exact ite01 (by omega))) dX7_isColumn_11

set_option maxHeartbeats 4000000 in
set_option maxRecDepth 100000 in
theorem kX7_isRow (l : Launch) (D : va_G) (cA : Nat → ClassId) (m : Nat → Nat) (m_nc : Nat) (m_nr : Nat) (m_ke : Int) (m_so : Int) (m_bu : Int) (m_bc : Int) (m_pu : Int) (m_qu : Int) (m_fs : Int) (m_cd : Int) (m_un : Int) (m_hb : Int) (m_pf : Int) (m_ef : Int) (c : Int) (hc : -2147483648 ≤ c ∧ c ≤ 2147483647) (qnr : m_nr ≤ 7) : CR l yX7_isRow wsX7_isRow ({ frames := 1, cells := 0, slots := 0, locals := 22 }) D cA [.ref (m 0), iv (c)] (wMO cA m (((m_nc : Nat) : Int)) (((m_nr : Nat) : Int)) (m_ke) (m_so) (m_bu) (m_bc) (m_pu) (m_qu) (m_fs) (m_cd) (m_un) (m_hb) (m_pf) (m_ef)) (fun ov => ov = some (iv (if 0 ≤ c ∧ c < (m_nr : Int) then 1 else 0))) := by
  refine CR.mk (cc := cX7_isRow) (maxL := 2) (ret := (some .boolean)) (by decide +kernel) rfl (Nat.le_of_ble_eq_true rfl) ?_
  intro p_ e_ s_ m_ b_ me_ c_ F
  have hV := @IR_P D s_
  have iX7 : ∀ w ∈ u_ws RX7 TX7 38, w ∈ wsX7_isRow := by decide +kernel
  refine g_lsub ([(0, .ref (m 0)), (1, iv (c))]) [0, 1] rfl ?_
  refine g_iload_n F 1 rfl rfl dX7_isRow_0 ?_
  refine g_iconst F dX7_isRow_1 ?_
  refine g_aload_n F 0 rfl rfl dX7_isRow_2 ?_
  refine g_get F hV iX7 0 rfl rfl 6 (by decide) (List.mem_of_getElem? (i := 1) rfl) rfl dX7_isRow_3 ?_
  refine g_iconst F dX7_isRow_6 ?_
  refine g_isub F dX7_isRow_7 ?_
  refine g_callRS F hV (As := [iv (c), iv (0), iv ((((m_nr : Nat) : Int)) - 1)]) (rest := []) (kX7_isIn l D cA c 0 ((((m_nr : Nat) : Int)) - 1) (by omega) (by omega) (by omega)) (va_cwS 3 F.2.2.2.2.1 gX7_isRow_X7_isIn rfl rfl rfl (by decide +kernel) ⟨Nat.le_of_ble_eq_true rfl, Nat.le_of_ble_eq_true rfl⟩) [] rfl rfl rfl (Nat.le_of_ble_eq_true rfl) ⟨Nat.le_of_ble_eq_true rfl, Nat.le_of_ble_eq_true rfl⟩ dX7_isRow_8 (fun v hv => ?_)
  subst hv
  refine g_eq (st' := [iv (if 0 ≤ c ∧ c ≤ ((((m_nr : Nat) : Int)) - 1) then 1 else 0)]) rfl rfl rfl ?_
  exact g_zretR F rfl nar_b (congrArg (fun z => some (iv z)) (show (if 0 ≤ c ∧ c ≤ ((((m_nr : Nat) : Int)) - 1) then 1 else 0 : Int) = if 0 ≤ c ∧ c < (m_nr : Int) then 1 else 0 by exact ite01 (by omega))) dX7_isRow_11

set_option maxHeartbeats 4000000 in
set_option maxRecDepth 100000 in
theorem kX7_areBounds (l : Launch) (D : va_G) (cA : Nat → ClassId) (k : Int) (v : Int) (w : Int) (hv : -2147483648 ≤ v ∧ v ≤ 2147483647) (hw : -2147483648 ≤ w ∧ w ≤ 2147483647) (hk : 0 ≤ k ∧ k ≤ 1) : CR l yX7_areBounds wsX7_areBounds ({ frames := 1, cells := 0, slots := 0, locals := 22 }) D cA [iv (k), iv (v), iv (w)] ([]) (fun ov => ov = some (iv (if fitsP k v w then 1 else 0))) := by
  refine CR.mk (cc := cX7_areBounds) (maxL := 3) (ret := (some .boolean)) (by decide +kernel) rfl (Nat.le_of_ble_eq_true rfl) ?_
  intro p_ e_ s_ m_ b_ me_ c_ F
  have hV := @IR_P D s_
  refine g_lsub ([(0, iv (k)), (1, iv (v)), (2, iv (w))]) [0, 1, 2] rfl ?_
  refine g_iload_n F 1 rfl rfl dX7_areBounds_0 ?_
  refine g_bipush F dX7_areBounds_1 (by decide) ?_
  refine g_bipush F dX7_areBounds_3 (by decide) ?_
  refine g_callRS F hV (As := [iv (v), iv (-20), iv (20)]) (rest := []) (kX7_isIn l D cA v (-20) 20 (by omega) (by omega) (by omega)) (va_cwS 3 F.2.2.2.2.1 gX7_areBounds_X7_isIn rfl rfl rfl (by decide +kernel) ⟨Nat.le_of_ble_eq_true rfl, Nat.le_of_ble_eq_true rfl⟩) [] rfl rfl rfl (Nat.le_of_ble_eq_true rfl) ⟨Nat.le_of_ble_eq_true rfl, Nat.le_of_ble_eq_true rfl⟩ dX7_areBounds_5 (fun v hv => ?_)
  subst hv
  refine g_eq (st' := [iv (if (-20) ≤ v ∧ v ≤ 20 then 1 else 0)]) rfl rfl rfl ?_
  refine g_ifb_ne F (tgt := 13) dX7_areBounds_8 (by decide) (fun c_1 => ?_) (fun c_1 => ?_)
  · skip
    refine g_iload_n F 2 rfl rfl dX7_areBounds_13 ?_
    refine g_ldc F (-2000000005) (by decide) (List.mem_of_getElem? (i := 1) rfl) dX7_areBounds_14 ?_
    refine g_icmp_ne F (tgt := 29) dX7_areBounds_16 (by decide) ⟨by omega, by omega⟩ ⟨by decide, by decide⟩ (fun c_2 => ?_) (fun c_2 => ?_)
    · skip
      refine g_iload_n F 2 rfl rfl dX7_areBounds_29 ?_
      refine g_iload_n F 1 rfl rfl dX7_areBounds_30 ?_
      refine g_bipush F dX7_areBounds_31 (by decide) ?_
      refine g_callRS F hV (As := [iv (w), iv (v), iv (20)]) (rest := []) (kX7_isIn l D cA w v 20 (by omega) (by omega) (by omega)) (va_cwS 3 F.2.2.2.2.1 gX7_areBounds_X7_isIn rfl rfl rfl (by decide +kernel) ⟨Nat.le_of_ble_eq_true rfl, Nat.le_of_ble_eq_true rfl⟩) [] rfl rfl rfl (Nat.le_of_ble_eq_true rfl) ⟨Nat.le_of_ble_eq_true rfl, Nat.le_of_ble_eq_true rfl⟩ dX7_areBounds_33 (fun v hv => ?_)
      subst hv
      refine g_eq (st' := [iv (if v ≤ w ∧ w ≤ 20 then 1 else 0)]) rfl rfl rfl ?_
      refine g_ifb_eq F (tgt := 55) dX7_areBounds_36 (by decide) (fun c_3 => ?_) (fun c_3 => ?_)
      · skip
        refine g_iconst F dX7_areBounds_55 ?_
        exact g_zretR F rfl (nar_01 (Or.inl rfl)) (congrArg (fun z => some (iv z)) (show (0 : Int) = if fitsP k v w then 1 else 0 by first | (rw [if_neg (by unfold fitsP; omega)]; done) | (rw [if_pos (by unfold fitsP; omega)]; done) | (exfalso; omega))) dX7_areBounds_56
      · skip
        refine g_iload_n F 0 rfl rfl dX7_areBounds_39 ?_
        refine g_if_eq F (tgt := 51) dX7_areBounds_40 (by decide) ⟨by omega, by omega⟩ (fun c_4 => ?_) (fun c_4 => ?_)
        · skip
          refine g_iconst F dX7_areBounds_51 ?_
          refine g_goto F (tgt := 56) dX7_areBounds_52 (by decide) ?_
          exact g_zretR F rfl (nar_01 (Or.inr rfl)) (congrArg (fun z => some (iv z)) (show (1 : Int) = if fitsP k v w then 1 else 0 by first | (rw [if_neg (by unfold fitsP; omega)]; done) | (rw [if_pos (by unfold fitsP; omega)]; done) | (exfalso; omega))) dX7_areBounds_56
        · skip
          refine g_iload_n F 2 rfl rfl dX7_areBounds_43 ?_
          refine g_iload_n F 1 rfl rfl dX7_areBounds_44 ?_
          refine g_bipush F dX7_areBounds_45 (by decide) ?_
          refine g_iadd F dX7_areBounds_47 ?_
          refine g_icmp_gt F (tgt := 55) dX7_areBounds_48 (by decide) ⟨by omega, by omega⟩ ⟨by omega, by omega⟩ (fun c_5 => ?_) (fun c_5 => ?_)
          · skip
            refine g_iconst F dX7_areBounds_55 ?_
            exact g_zretR F rfl (nar_01 (Or.inl rfl)) (congrArg (fun z => some (iv z)) (show (0 : Int) = if fitsP k v w then 1 else 0 by first | (rw [if_neg (by unfold fitsP; omega)]; done) | (rw [if_pos (by unfold fitsP; omega)]; done) | (exfalso; omega))) dX7_areBounds_56
          · skip
            refine g_iconst F dX7_areBounds_51 ?_
            refine g_goto F (tgt := 56) dX7_areBounds_52 (by decide) ?_
            exact g_zretR F rfl (nar_01 (Or.inr rfl)) (congrArg (fun z => some (iv z)) (show (1 : Int) = if fitsP k v w then 1 else 0 by first | (rw [if_neg (by unfold fitsP; omega)]; done) | (rw [if_pos (by unfold fitsP; omega)]; done) | (exfalso; omega))) dX7_areBounds_56
    · skip
      refine g_iload_n F 0 rfl rfl dX7_areBounds_19 ?_
      refine g_if_ne F (tgt := 27) dX7_areBounds_20 (by decide) ⟨by omega, by omega⟩ (fun c_6 => ?_) (fun c_6 => ?_)
      · skip
        refine g_iconst F dX7_areBounds_27 ?_
        exact g_zretR F rfl (nar_01 (Or.inl rfl)) (congrArg (fun z => some (iv z)) (show (0 : Int) = if fitsP k v w then 1 else 0 by first | (rw [if_neg (by unfold fitsP; omega)]; done) | (rw [if_pos (by unfold fitsP; omega)]; done) | (exfalso; omega))) dX7_areBounds_28
      · skip
        refine g_iconst F dX7_areBounds_23 ?_
        refine g_goto F (tgt := 28) dX7_areBounds_24 (by decide) ?_
        exact g_zretR F rfl (nar_01 (Or.inr rfl)) (congrArg (fun z => some (iv z)) (show (1 : Int) = if fitsP k v w then 1 else 0 by first | (rw [if_neg (by unfold fitsP; omega)]; done) | (rw [if_pos (by unfold fitsP; omega)]; done) | (exfalso; omega))) dX7_areBounds_28
  · skip
    refine g_iconst F dX7_areBounds_11 ?_
    exact g_zretR F rfl (nar_01 (Or.inl rfl)) (congrArg (fun z => some (iv z)) (show (0 : Int) = if fitsP k v w then 1 else 0 by first | (rw [if_neg (by unfold fitsP; omega)]; done) | (rw [if_pos (by unfold fitsP; omega)]; done) | (exfalso; omega))) dX7_areBounds_12

set_option maxHeartbeats 4000000 in
set_option maxRecDepth 100000 in
theorem kX7_cost (l : Launch) (D : va_G) (cA : Nat → ClassId) (m : Nat → Nat) (m_nc : Nat) (m_nr : Nat) (m_ke : Int) (m_so : Int) (m_bu : Int) (m_bc : Int) (m_pu : Int) (m_qu : Int) (m_fs : Int) (m_cd : Int) (m_un : Int) (m_hb : Int) (m_pf : Int) (m_ef : Int) (m_kd : Nat → Int) (m_lo : Nat → Int) (m_hi : Nat → Int) (m_co : Nat → Int) (m_pa : Nat → Int) (m_rk : Nat → Int) (m_nu : Nat → Int) (m_ct : Nat → Int) (m_sa : Nat → Int) (c : Int) (v : Int) (hc : -2147483648 ≤ c ∧ c ≤ 2147483647) (hv : -2147483648 ≤ v ∧ v ≤ 2147483647) (qnc : m_nc ≤ 5) (qnr : m_nr ≤ 7) (qkd : ∀ j, 0 ≤ m_kd j ∧ m_kd j ≤ 2) : CT l yX7_cost wsX7_cost ({ frames := 2, cells := 0, slots := 0, locals := 43 }) D cA [.ref (m 0), iv (c), iv (v)] (wMO cA m (((m_nc : Nat) : Int)) (((m_nr : Nat) : Int)) (m_ke) (m_so) (m_bu) (m_bc) (m_pu) (m_qu) (m_fs) (m_cd) (m_un) (m_hb) (m_pf) (m_ef) ++ wMP cA m (m_kd) (m_lo) (m_hi) (m_co) (m_pa) (m_rk) (m_nu) (m_ct) (m_sa)) (fun ov ow => ov = some (iv (if (0 ≤ c ∧ c < (m_nc : Int)) ∧ -9 ≤ v ∧ v ≤ 9 then m_co c.toNat else -2000000001)) ∧ ow = if (0 ≤ c ∧ c < (m_nc : Int)) ∧ -9 ≤ v ∧ v ≤ 9 then wMO cA m (((m_nc : Nat) : Int)) (((m_nr : Nat) : Int)) (m_ke) (m_so) (m_bu) (m_bc) (m_pu) (m_qu) (m_fs) (m_cd) (m_un) (m_hb) (m_pf) (m_ef) ++ wMP cA m (m_kd) (m_lo) (m_hi) (va_up m_co c.toNat v) (m_pa) (m_rk) (m_nu) (m_ct) (m_sa) else wMO cA m (((m_nc : Nat) : Int)) (((m_nr : Nat) : Int)) (m_ke) (m_so) (m_bu) (m_bc) (m_pu) (m_qu) (m_fs) (m_cd) (m_un) (m_hb) (m_pf) (m_ef) ++ wMP cA m (m_kd) (m_lo) (m_hi) (m_co) (m_pa) (m_rk) (m_nu) (m_ct) (m_sa)) 0 0 := by
  refine CT.mk (cc := cX7_cost) (maxL := 4) (ret := (some .int)) (by decide +kernel) rfl (Nat.le_of_ble_eq_true rfl) ?_
  intro p_ e_ s_ m_ b_ me_ c_ A F hnm hA
  have hV := @IM_P D s_ A
  have iX7 : ∀ w ∈ u_ws RX7 TX7 38, w ∈ wsX7_cost := by decide +kernel
  refine g_lsub ([(0, .ref (m 0)), (1, iv (c)), (2, iv (v))]) [0, 1, 2] rfl ?_
  refine g_aload_n F 0 rfl rfl dX7_cost_0 ?_
  refine g_iload_n F 1 rfl rfl dX7_cost_1 ?_
  refine g_callRV F hV (As := [iv (c)]) (rest := []) (kX7_isColumn l D cA m m_nc m_nr m_ke m_so m_bu m_bc m_pu m_qu m_fs m_cd m_un m_hb m_pf m_ef c (by omega) (qnc)) (cwV 1 F.2.2.2.2.1 gX7_cost_X7_isColumn rfl rfl rfl (by decide +kernel) ⟨Nat.le_of_ble_eq_true rfl, Nat.le_of_ble_eq_true rfl⟩) rfl rfl (q0 := 0) rfl [0] rfl rfl rfl (Nat.le_of_ble_eq_true rfl) ⟨Nat.le_of_ble_eq_true rfl, Nat.le_of_ble_eq_true rfl⟩ dX7_cost_2 (fun v hv => ?_)
  subst hv
  refine g_eq (st' := [iv (if 0 ≤ c ∧ c < (m_nc : Int) then 1 else 0)]) rfl rfl rfl ?_
  refine g_ifb_eq F (tgt := 19) dX7_cost_5 (by decide) (fun c_1 => ?_) (fun c_1 => ?_)
  · skip
    refine g_ldc F (-2000000001) (by decide) (List.mem_of_getElem? (i := 1) rfl) dX7_cost_19 ?_
    exact g_zret F rfl rfl (by decide) (by decide) ⟨congrArg (fun z => some (iv z)) (show (-2000000001 : Int) = if (0 ≤ c ∧ c < (m_nc : Int)) ∧ -9 ≤ v ∧ v ≤ 9 then m_co c.toNat else -2000000001 by (try simp only [Int.toNat_natCast]); first | (rw [if_neg (by omega)]; done) | (rw [if_pos (by omega)]; done)), (by (try simp only [Int.toNat_natCast]); first | (rw [if_neg (by omega)]; done) | (rw [if_pos (by omega)]; done))⟩ dX7_cost_21
  · skip
    obtain ⟨cn, hcn⟩ : ∃ y : Nat, c = (y : Int) := ⟨c.toNat, by omega⟩
    subst hcn
    refine g_iload_n F 2 rfl rfl dX7_cost_8 ?_
    refine g_bipush F dX7_cost_9 (by decide) ?_
    refine g_bipush F dX7_cost_11 (by decide) ?_
    refine g_callRS F hV (As := [iv (v), iv (-9), iv (9)]) (rest := []) (kX7_isIn l D cA v (-9) 9 (by omega) (by omega) (by omega)) (va_cwS 3 F.2.2.2.2.1 gX7_cost_X7_isIn rfl rfl rfl (by decide +kernel) ⟨Nat.le_of_ble_eq_true rfl, Nat.le_of_ble_eq_true rfl⟩) [] rfl rfl rfl (Nat.le_of_ble_eq_true rfl) ⟨Nat.le_of_ble_eq_true rfl, Nat.le_of_ble_eq_true rfl⟩ dX7_cost_13 (fun v hv => ?_)
    subst hv
    refine g_eq (st' := [iv (if (-9) ≤ v ∧ v ≤ 9 then 1 else 0)]) rfl rfl rfl ?_
    refine g_ifb_ne F (tgt := 22) dX7_cost_16 (by decide) (fun c_2 => ?_) (fun c_2 => ?_)
    · skip
      refine g_aload_n F 0 rfl rfl dX7_cost_22 ?_
      refine g_get F hV iX7 0 rfl rfl 4 (by decide) (List.mem_of_getElem? (i := 2) rfl) rfl dX7_cost_23 ?_
      refine g_iload_n F 1 rfl rfl dX7_cost_26 ?_
      refine g_iald F hV 4 rfl (cn) (by omega) (by omega) (by decide) dX7_cost_27 ?_
      refine g_istore_n F ([(3, iv (m_co cn)), (0, .ref (m 0)), (1, iv (((cn : Nat) : Int))), (2, iv (v))]) rfl rfl (by decide) dX7_cost_28 ?_
      refine g_aload_n F 1 rfl rfl dX7_cost_29 ?_
      refine g_get F hV iX7 0 rfl rfl 4 (by decide) (List.mem_of_getElem? (i := 2) rfl) rfl dX7_cost_30 ?_
      refine g_iload_n F 2 rfl rfl dX7_cost_33 ?_
      refine g_iload_n F 3 rfl rfl dX7_cost_34 ?_
      refine g_iast F 4 rfl (cn) (by omega) (by omega) (by decide) (wMO cA m (((m_nc : Nat) : Int)) (((m_nr : Nat) : Int)) (m_ke) (m_so) (m_bu) (m_bc) (m_pu) (m_qu) (m_fs) (m_cd) (m_un) (m_hb) (m_pf) (m_ef) ++ wMP cA m (m_kd) (m_lo) (m_hi) (va_up m_co cn v) (m_pa) (m_rk) (m_nu) (m_ct) (m_sa)) rfl dX7_cost_35 ?_
      refine g_iload_n F 0 rfl rfl dX7_cost_36 ?_
      exact g_zret F rfl rfl (by decide) (by decide) ⟨congrArg (fun z => some (iv z)) (show (m_co cn : Int) = if (0 ≤ ((cn : Nat) : Int) ∧ ((cn : Nat) : Int) < (m_nc : Int)) ∧ -9 ≤ v ∧ v ≤ 9 then m_co ((cn : Nat) : Int).toNat else -2000000001 by (try simp only [Int.toNat_natCast]); first | (rw [if_neg (by omega)]; done) | (rw [if_pos (by omega)]; done)), (by (try simp only [Int.toNat_natCast]); first | (rw [if_neg (by omega)]; done) | (rw [if_pos (by omega)]; done))⟩ dX7_cost_37
    · skip
      refine g_ldc F (-2000000001) (by decide) (List.mem_of_getElem? (i := 1) rfl) dX7_cost_19 ?_
      exact g_zret F rfl rfl (by decide) (by decide) ⟨congrArg (fun z => some (iv z)) (show (-2000000001 : Int) = if (0 ≤ ((cn : Nat) : Int) ∧ ((cn : Nat) : Int) < (m_nc : Int)) ∧ -9 ≤ v ∧ v ≤ 9 then m_co ((cn : Nat) : Int).toNat else -2000000001 by (try simp only [Int.toNat_natCast]); first | (rw [if_neg (by omega)]; done) | (rw [if_pos (by omega)]; done)), (by (try simp only [Int.toNat_natCast]); first | (rw [if_neg (by omega)]; done) | (rw [if_pos (by omega)]; done))⟩ dX7_cost_21

set_option maxHeartbeats 4000000 in
set_option maxRecDepth 100000 in
theorem kX7_number (l : Launch) (D : va_G) (cA : Nat → ClassId) (m : Nat → Nat) (m_nc : Nat) (m_nr : Nat) (m_ke : Int) (m_so : Int) (m_bu : Int) (m_bc : Int) (m_pu : Int) (m_qu : Int) (m_fs : Int) (m_cd : Int) (m_un : Int) (m_hb : Int) (m_pf : Int) (m_ef : Int) (m_kd : Nat → Int) (m_lo : Nat → Int) (m_hi : Nat → Int) (m_co : Nat → Int) (m_pa : Nat → Int) (m_rk : Nat → Int) (m_nu : Nat → Int) (m_ct : Nat → Int) (m_sa : Nat → Int) (c : Int) (v : Int) (hc : -2147483648 ≤ c ∧ c ≤ 2147483647) (hv : -2147483648 ≤ v ∧ v ≤ 2147483647) (qnc : m_nc ≤ 5) (qnr : m_nr ≤ 7) (qkd : ∀ j, 0 ≤ m_kd j ∧ m_kd j ≤ 2) : CT l yX7_number wsX7_number ({ frames := 2, cells := 0, slots := 0, locals := 43 }) D cA [.ref (m 0), iv (c), iv (v)] (wMO cA m (((m_nc : Nat) : Int)) (((m_nr : Nat) : Int)) (m_ke) (m_so) (m_bu) (m_bc) (m_pu) (m_qu) (m_fs) (m_cd) (m_un) (m_hb) (m_pf) (m_ef) ++ wMP cA m (m_kd) (m_lo) (m_hi) (m_co) (m_pa) (m_rk) (m_nu) (m_ct) (m_sa)) (fun ov ow => ov = some (iv (if (0 ≤ c ∧ c < (m_nr : Int)) ∧ -99 ≤ v ∧ v ≤ 99 then m_nu c.toNat else -2000000001)) ∧ ow = if (0 ≤ c ∧ c < (m_nr : Int)) ∧ -99 ≤ v ∧ v ≤ 99 then wMO cA m (((m_nc : Nat) : Int)) (((m_nr : Nat) : Int)) (m_ke) (m_so) (m_bu) (m_bc) (m_pu) (m_qu) (m_fs) (m_cd) (m_un) (m_hb) (m_pf) (m_ef) ++ wMP cA m (m_kd) (m_lo) (m_hi) (m_co) (m_pa) (m_rk) (va_up m_nu c.toNat v) (m_ct) (m_sa) else wMO cA m (((m_nc : Nat) : Int)) (((m_nr : Nat) : Int)) (m_ke) (m_so) (m_bu) (m_bc) (m_pu) (m_qu) (m_fs) (m_cd) (m_un) (m_hb) (m_pf) (m_ef) ++ wMP cA m (m_kd) (m_lo) (m_hi) (m_co) (m_pa) (m_rk) (m_nu) (m_ct) (m_sa)) 0 0 := by
  refine CT.mk (cc := cX7_number) (maxL := 4) (ret := (some .int)) (by decide +kernel) rfl (Nat.le_of_ble_eq_true rfl) ?_
  intro p_ e_ s_ m_ b_ me_ c_ A F hnm hA
  have hV := @IM_P D s_ A
  have iX7 : ∀ w ∈ u_ws RX7 TX7 38, w ∈ wsX7_number := by decide +kernel
  refine g_lsub ([(0, .ref (m 0)), (1, iv (c)), (2, iv (v))]) [0, 1, 2] rfl ?_
  refine g_aload_n F 0 rfl rfl dX7_number_0 ?_
  refine g_iload_n F 1 rfl rfl dX7_number_1 ?_
  refine g_callRV F hV (As := [iv (c)]) (rest := []) (kX7_isRow l D cA m m_nc m_nr m_ke m_so m_bu m_bc m_pu m_qu m_fs m_cd m_un m_hb m_pf m_ef c (by omega) (qnr)) (cwV 1 F.2.2.2.2.1 gX7_number_X7_isRow rfl rfl rfl (by decide +kernel) ⟨Nat.le_of_ble_eq_true rfl, Nat.le_of_ble_eq_true rfl⟩) rfl rfl (q0 := 0) rfl [0] rfl rfl rfl (Nat.le_of_ble_eq_true rfl) ⟨Nat.le_of_ble_eq_true rfl, Nat.le_of_ble_eq_true rfl⟩ dX7_number_2 (fun v hv => ?_)
  subst hv
  refine g_eq (st' := [iv (if 0 ≤ c ∧ c < (m_nr : Int) then 1 else 0)]) rfl rfl rfl ?_
  refine g_ifb_eq F (tgt := 19) dX7_number_5 (by decide) (fun c_1 => ?_) (fun c_1 => ?_)
  · skip
    refine g_ldc F (-2000000001) (by decide) (List.mem_of_getElem? (i := 1) rfl) dX7_number_19 ?_
    exact g_zret F rfl rfl (by decide) (by decide) ⟨congrArg (fun z => some (iv z)) (show (-2000000001 : Int) = if (0 ≤ c ∧ c < (m_nr : Int)) ∧ -99 ≤ v ∧ v ≤ 99 then m_nu c.toNat else -2000000001 by (try simp only [Int.toNat_natCast]); first | (rw [if_neg (by omega)]; done) | (rw [if_pos (by omega)]; done)), (by (try simp only [Int.toNat_natCast]); first | (rw [if_neg (by omega)]; done) | (rw [if_pos (by omega)]; done))⟩ dX7_number_21
  · skip
    obtain ⟨cn, hcn⟩ : ∃ y : Nat, c = (y : Int) := ⟨c.toNat, by omega⟩
    subst hcn
    refine g_iload_n F 2 rfl rfl dX7_number_8 ?_
    refine g_bipush F dX7_number_9 (by decide) ?_
    refine g_bipush F dX7_number_11 (by decide) ?_
    refine g_callRS F hV (As := [iv (v), iv (-99), iv (99)]) (rest := []) (kX7_isIn l D cA v (-99) 99 (by omega) (by omega) (by omega)) (va_cwS 3 F.2.2.2.2.1 gX7_number_X7_isIn rfl rfl rfl (by decide +kernel) ⟨Nat.le_of_ble_eq_true rfl, Nat.le_of_ble_eq_true rfl⟩) [] rfl rfl rfl (Nat.le_of_ble_eq_true rfl) ⟨Nat.le_of_ble_eq_true rfl, Nat.le_of_ble_eq_true rfl⟩ dX7_number_13 (fun v hv => ?_)
    subst hv
    refine g_eq (st' := [iv (if (-99) ≤ v ∧ v ≤ 99 then 1 else 0)]) rfl rfl rfl ?_
    refine g_ifb_ne F (tgt := 22) dX7_number_16 (by decide) (fun c_2 => ?_) (fun c_2 => ?_)
    · skip
      refine g_aload_n F 0 rfl rfl dX7_number_22 ?_
      refine g_get F hV iX7 0 rfl rfl 8 (by decide) (List.mem_of_getElem? (i := 2) rfl) rfl dX7_number_23 ?_
      refine g_iload_n F 1 rfl rfl dX7_number_26 ?_
      refine g_iald F hV 7 rfl (cn) (by omega) (by omega) (by decide) dX7_number_27 ?_
      refine g_istore_n F ([(3, iv (m_nu cn)), (0, .ref (m 0)), (1, iv (((cn : Nat) : Int))), (2, iv (v))]) rfl rfl (by decide) dX7_number_28 ?_
      refine g_aload_n F 1 rfl rfl dX7_number_29 ?_
      refine g_get F hV iX7 0 rfl rfl 8 (by decide) (List.mem_of_getElem? (i := 2) rfl) rfl dX7_number_30 ?_
      refine g_iload_n F 2 rfl rfl dX7_number_33 ?_
      refine g_iload_n F 3 rfl rfl dX7_number_34 ?_
      refine g_iast F 7 rfl (cn) (by omega) (by omega) (by decide) (wMO cA m (((m_nc : Nat) : Int)) (((m_nr : Nat) : Int)) (m_ke) (m_so) (m_bu) (m_bc) (m_pu) (m_qu) (m_fs) (m_cd) (m_un) (m_hb) (m_pf) (m_ef) ++ wMP cA m (m_kd) (m_lo) (m_hi) (m_co) (m_pa) (m_rk) (va_up m_nu cn v) (m_ct) (m_sa)) rfl dX7_number_35 ?_
      refine g_iload_n F 0 rfl rfl dX7_number_36 ?_
      exact g_zret F rfl rfl (by decide) (by decide) ⟨congrArg (fun z => some (iv z)) (show (m_nu cn : Int) = if (0 ≤ ((cn : Nat) : Int) ∧ ((cn : Nat) : Int) < (m_nr : Int)) ∧ -99 ≤ v ∧ v ≤ 99 then m_nu ((cn : Nat) : Int).toNat else -2000000001 by (try simp only [Int.toNat_natCast]); first | (rw [if_neg (by omega)]; done) | (rw [if_pos (by omega)]; done)), (by (try simp only [Int.toNat_natCast]); first | (rw [if_neg (by omega)]; done) | (rw [if_pos (by omega)]; done))⟩ dX7_number_37
    · skip
      refine g_ldc F (-2000000001) (by decide) (List.mem_of_getElem? (i := 1) rfl) dX7_number_19 ?_
      exact g_zret F rfl rfl (by decide) (by decide) ⟨congrArg (fun z => some (iv z)) (show (-2000000001 : Int) = if (0 ≤ ((cn : Nat) : Int) ∧ ((cn : Nat) : Int) < (m_nr : Int)) ∧ -99 ≤ v ∧ v ≤ 99 then m_nu ((cn : Nat) : Int).toNat else -2000000001 by (try simp only [Int.toNat_natCast]); first | (rw [if_neg (by omega)]; done) | (rw [if_pos (by omega)]; done)), (by (try simp only [Int.toNat_natCast]); first | (rw [if_neg (by omega)]; done) | (rw [if_pos (by omega)]; done))⟩ dX7_number_21

set_option maxHeartbeats 4000000 in
set_option maxRecDepth 100000 in
theorem kX7_counts (l : Launch) (D : va_G) (cA : Nat → ClassId) (m : Nat → Nat) (m_nc : Nat) (m_nr : Nat) (m_ke : Int) (m_so : Int) (m_bu : Int) (m_bc : Int) (m_pu : Int) (m_qu : Int) (m_fs : Int) (m_cd : Int) (m_un : Int) (m_hb : Int) (m_pf : Int) (m_ef : Int) (m_kd : Nat → Int) (m_lo : Nat → Int) (m_hi : Nat → Int) (m_co : Nat → Int) (m_pa : Nat → Int) (m_rk : Nat → Int) (m_nu : Nat → Int) (m_ct : Nat → Int) (m_sa : Nat → Int) (c : Int) (v : Int) (hc : -2147483648 ≤ c ∧ c ≤ 2147483647) (hv : -2147483648 ≤ v ∧ v ≤ 2147483647) (qnc : m_nc ≤ 5) (qnr : m_nr ≤ 7) (qkd : ∀ j, 0 ≤ m_kd j ∧ m_kd j ≤ 2) (qct : ∀ j, 0 ≤ m_ct j ∧ m_ct j ≤ 1) : CT l yX7_counts wsX7_counts ({ frames := 2, cells := 0, slots := 0, locals := 43 }) D cA [.ref (m 0), iv (c), iv (v)] (wMO cA m (((m_nc : Nat) : Int)) (((m_nr : Nat) : Int)) (m_ke) (m_so) (m_bu) (m_bc) (m_pu) (m_qu) (m_fs) (m_cd) (m_un) (m_hb) (m_pf) (m_ef) ++ wMP cA m (m_kd) (m_lo) (m_hi) (m_co) (m_pa) (m_rk) (m_nu) (m_ct) (m_sa)) (fun ov ow => ov = some (iv (if (0 ≤ c ∧ c < (m_nr : Int)) ∧ (v = 0 ∨ v = 1) then m_ct c.toNat else -2000000001)) ∧ ow = if (0 ≤ c ∧ c < (m_nr : Int)) ∧ (v = 0 ∨ v = 1) then wMO cA m (((m_nc : Nat) : Int)) (((m_nr : Nat) : Int)) (m_ke) (m_so) (m_bu) (m_bc) (m_pu) (m_qu) (m_fs) (m_cd) (m_un) (m_hb) (m_pf) (m_ef) ++ wMP cA m (m_kd) (m_lo) (m_hi) (m_co) (m_pa) (m_rk) (m_nu) (va_up m_ct c.toNat v) (m_sa) else wMO cA m (((m_nc : Nat) : Int)) (((m_nr : Nat) : Int)) (m_ke) (m_so) (m_bu) (m_bc) (m_pu) (m_qu) (m_fs) (m_cd) (m_un) (m_hb) (m_pf) (m_ef) ++ wMP cA m (m_kd) (m_lo) (m_hi) (m_co) (m_pa) (m_rk) (m_nu) (m_ct) (m_sa)) 0 0 := by
  refine CT.mk (cc := cX7_counts) (maxL := 4) (ret := (some .int)) (by decide +kernel) rfl (Nat.le_of_ble_eq_true rfl) ?_
  intro p_ e_ s_ m_ b_ me_ c_ A F hnm hA
  have hV := @IM_P D s_ A
  have iX7 : ∀ w ∈ u_ws RX7 TX7 38, w ∈ wsX7_counts := by decide +kernel
  refine g_lsub ([(0, .ref (m 0)), (1, iv (c)), (2, iv (v))]) [0, 1, 2] rfl ?_
  refine g_aload_n F 0 rfl rfl dX7_counts_0 ?_
  refine g_iload_n F 1 rfl rfl dX7_counts_1 ?_
  refine g_callRV F hV (As := [iv (c)]) (rest := []) (kX7_isRow l D cA m m_nc m_nr m_ke m_so m_bu m_bc m_pu m_qu m_fs m_cd m_un m_hb m_pf m_ef c (by omega) (qnr)) (cwV 1 F.2.2.2.2.1 gX7_counts_X7_isRow rfl rfl rfl (by decide +kernel) ⟨Nat.le_of_ble_eq_true rfl, Nat.le_of_ble_eq_true rfl⟩) rfl rfl (q0 := 0) rfl [0] rfl rfl rfl (Nat.le_of_ble_eq_true rfl) ⟨Nat.le_of_ble_eq_true rfl, Nat.le_of_ble_eq_true rfl⟩ dX7_counts_2 (fun v hv => ?_)
  subst hv
  refine g_eq (st' := [iv (if 0 ≤ c ∧ c < (m_nr : Int) then 1 else 0)]) rfl rfl rfl ?_
  refine g_ifb_eq F (tgt := 17) dX7_counts_5 (by decide) (fun c_1 => ?_) (fun c_1 => ?_)
  · skip
    refine g_ldc F (-2000000001) (by decide) (List.mem_of_getElem? (i := 1) rfl) dX7_counts_17 ?_
    exact g_zret F rfl rfl (by decide) (by decide) ⟨congrArg (fun z => some (iv z)) (show (-2000000001 : Int) = if (0 ≤ c ∧ c < (m_nr : Int)) ∧ (v = 0 ∨ v = 1) then m_ct c.toNat else -2000000001 by (try simp only [Int.toNat_natCast]); first | (rw [if_neg (by omega)]; done) | (rw [if_pos (by omega)]; omega)), (by (try simp only [Int.toNat_natCast]); first | (rw [if_neg (by omega)]; done) | (rw [if_pos (by omega), show v = 1 by omega]; done) | (rw [if_pos (by omega), show v = 0 by omega]; done))⟩ dX7_counts_19
  · skip
    obtain ⟨cn, hcn⟩ : ∃ y : Nat, c = (y : Int) := ⟨c.toNat, by omega⟩
    subst hcn
    refine g_iload_n F 2 rfl rfl dX7_counts_8 ?_
    refine g_iconst F dX7_counts_9 ?_
    refine g_iconst F dX7_counts_10 ?_
    refine g_callRS F hV (As := [iv (v), iv (0), iv (1)]) (rest := []) (kX7_isIn l D cA v 0 1 (by omega) (by omega) (by omega)) (va_cwS 3 F.2.2.2.2.1 gX7_counts_X7_isIn rfl rfl rfl (by decide +kernel) ⟨Nat.le_of_ble_eq_true rfl, Nat.le_of_ble_eq_true rfl⟩) [] rfl rfl rfl (Nat.le_of_ble_eq_true rfl) ⟨Nat.le_of_ble_eq_true rfl, Nat.le_of_ble_eq_true rfl⟩ dX7_counts_11 (fun v hv => ?_)
    subst hv
    refine g_eq (st' := [iv (if 0 ≤ v ∧ v ≤ 1 then 1 else 0)]) rfl rfl rfl ?_
    refine g_ifb_ne F (tgt := 20) dX7_counts_14 (by decide) (fun c_2 => ?_) (fun c_2 => ?_)
    · skip
      refine g_aload_n F 0 rfl rfl dX7_counts_20 ?_
      refine g_get F hV iX7 0 rfl rfl 9 (by decide) (List.mem_of_getElem? (i := 2) rfl) rfl dX7_counts_21 ?_
      refine g_iload_n F 1 rfl rfl dX7_counts_24 ?_
      have r_3 := qct (cn)
      refine g_zald F hV 8 rfl (cn) (by omega) (by omega) (by decide) dX7_counts_25 ?_
      refine g_if_eq F (tgt := 33) dX7_counts_26 (by decide) ⟨by omega, by omega⟩ (fun c_4 => ?_) (fun c_4 => ?_)
      · skip
        refine g_iconst F dX7_counts_33 ?_
        refine g_istore_n F ([(3, iv (0)), (0, .ref (m 0)), (1, iv (((cn : Nat) : Int))), (2, iv (v))]) rfl rfl (by decide) dX7_counts_34 ?_
        refine g_aload_n F 1 rfl rfl dX7_counts_35 ?_
        refine g_get F hV iX7 0 rfl rfl 9 (by decide) (List.mem_of_getElem? (i := 2) rfl) rfl dX7_counts_36 ?_
        refine g_iload_n F 2 rfl rfl dX7_counts_39 ?_
        refine g_iload_n F 3 rfl rfl dX7_counts_40 ?_
        refine g_iconst F dX7_counts_41 ?_
        refine g_icmp_ne F (tgt := 49) dX7_counts_42 (by decide) ⟨by omega, by omega⟩ ⟨by decide, by decide⟩ (fun c_5 => ?_) (fun c_5 => ?_)
        · skip
          refine g_iconst F dX7_counts_49 ?_
          refine g_zast F 8 rfl (cn) (Or.inl rfl) (by omega) (by omega) (by decide) (wMO cA m (((m_nc : Nat) : Int)) (((m_nr : Nat) : Int)) (m_ke) (m_so) (m_bu) (m_bc) (m_pu) (m_qu) (m_fs) (m_cd) (m_un) (m_hb) (m_pf) (m_ef) ++ wMP cA m (m_kd) (m_lo) (m_hi) (m_co) (m_pa) (m_rk) (m_nu) (va_up m_ct cn 0) (m_sa)) rfl dX7_counts_50 ?_
          refine g_iload_n F 0 rfl rfl dX7_counts_51 ?_
          exact g_zret F rfl rfl (by decide) (by decide) ⟨congrArg (fun z => some (iv z)) (show (0 : Int) = if (0 ≤ ((cn : Nat) : Int) ∧ ((cn : Nat) : Int) < (m_nr : Int)) ∧ (v = 0 ∨ v = 1) then m_ct ((cn : Nat) : Int).toNat else -2000000001 by (try simp only [Int.toNat_natCast]); first | (rw [if_neg (by omega)]; done) | (rw [if_pos (by omega)]; omega)), (by (try simp only [Int.toNat_natCast]); first | (rw [if_neg (by omega)]; done) | (rw [if_pos (by omega), show v = 1 by omega]; done) | (rw [if_pos (by omega), show v = 0 by omega]; done))⟩ dX7_counts_52
        · skip
          refine g_iconst F dX7_counts_45 ?_
          refine g_goto F (tgt := 50) dX7_counts_46 (by decide) ?_
          refine g_zast F 8 rfl (cn) (Or.inr rfl) (by omega) (by omega) (by decide) (wMO cA m (((m_nc : Nat) : Int)) (((m_nr : Nat) : Int)) (m_ke) (m_so) (m_bu) (m_bc) (m_pu) (m_qu) (m_fs) (m_cd) (m_un) (m_hb) (m_pf) (m_ef) ++ wMP cA m (m_kd) (m_lo) (m_hi) (m_co) (m_pa) (m_rk) (m_nu) (va_up m_ct cn 1) (m_sa)) rfl dX7_counts_50 ?_
          refine g_iload_n F 0 rfl rfl dX7_counts_51 ?_
          exact g_zret F rfl rfl (by decide) (by decide) ⟨congrArg (fun z => some (iv z)) (show (0 : Int) = if (0 ≤ ((cn : Nat) : Int) ∧ ((cn : Nat) : Int) < (m_nr : Int)) ∧ (v = 0 ∨ v = 1) then m_ct ((cn : Nat) : Int).toNat else -2000000001 by (try simp only [Int.toNat_natCast]); first | (rw [if_neg (by omega)]; done) | (rw [if_pos (by omega)]; omega)), (by (try simp only [Int.toNat_natCast]); first | (rw [if_neg (by omega)]; done) | (rw [if_pos (by omega), show v = 1 by omega]; done) | (rw [if_pos (by omega), show v = 0 by omega]; done))⟩ dX7_counts_52
      · skip
        refine g_iconst F dX7_counts_29 ?_
        refine g_goto F (tgt := 34) dX7_counts_30 (by decide) ?_
        refine g_istore_n F ([(3, iv (1)), (0, .ref (m 0)), (1, iv (((cn : Nat) : Int))), (2, iv (v))]) rfl rfl (by decide) dX7_counts_34 ?_
        refine g_aload_n F 1 rfl rfl dX7_counts_35 ?_
        refine g_get F hV iX7 0 rfl rfl 9 (by decide) (List.mem_of_getElem? (i := 2) rfl) rfl dX7_counts_36 ?_
        refine g_iload_n F 2 rfl rfl dX7_counts_39 ?_
        refine g_iload_n F 3 rfl rfl dX7_counts_40 ?_
        refine g_iconst F dX7_counts_41 ?_
        refine g_icmp_ne F (tgt := 49) dX7_counts_42 (by decide) ⟨by omega, by omega⟩ ⟨by decide, by decide⟩ (fun c_6 => ?_) (fun c_6 => ?_)
        · skip
          refine g_iconst F dX7_counts_49 ?_
          refine g_zast F 8 rfl (cn) (Or.inl rfl) (by omega) (by omega) (by decide) (wMO cA m (((m_nc : Nat) : Int)) (((m_nr : Nat) : Int)) (m_ke) (m_so) (m_bu) (m_bc) (m_pu) (m_qu) (m_fs) (m_cd) (m_un) (m_hb) (m_pf) (m_ef) ++ wMP cA m (m_kd) (m_lo) (m_hi) (m_co) (m_pa) (m_rk) (m_nu) (va_up m_ct cn 0) (m_sa)) rfl dX7_counts_50 ?_
          refine g_iload_n F 0 rfl rfl dX7_counts_51 ?_
          exact g_zret F rfl rfl (by decide) (by decide) ⟨congrArg (fun z => some (iv z)) (show (1 : Int) = if (0 ≤ ((cn : Nat) : Int) ∧ ((cn : Nat) : Int) < (m_nr : Int)) ∧ (v = 0 ∨ v = 1) then m_ct ((cn : Nat) : Int).toNat else -2000000001 by (try simp only [Int.toNat_natCast]); first | (rw [if_neg (by omega)]; done) | (rw [if_pos (by omega)]; omega)), (by (try simp only [Int.toNat_natCast]); first | (rw [if_neg (by omega)]; done) | (rw [if_pos (by omega), show v = 1 by omega]; done) | (rw [if_pos (by omega), show v = 0 by omega]; done))⟩ dX7_counts_52
        · skip
          refine g_iconst F dX7_counts_45 ?_
          refine g_goto F (tgt := 50) dX7_counts_46 (by decide) ?_
          refine g_zast F 8 rfl (cn) (Or.inr rfl) (by omega) (by omega) (by decide) (wMO cA m (((m_nc : Nat) : Int)) (((m_nr : Nat) : Int)) (m_ke) (m_so) (m_bu) (m_bc) (m_pu) (m_qu) (m_fs) (m_cd) (m_un) (m_hb) (m_pf) (m_ef) ++ wMP cA m (m_kd) (m_lo) (m_hi) (m_co) (m_pa) (m_rk) (m_nu) (va_up m_ct cn 1) (m_sa)) rfl dX7_counts_50 ?_
          refine g_iload_n F 0 rfl rfl dX7_counts_51 ?_
          exact g_zret F rfl rfl (by decide) (by decide) ⟨congrArg (fun z => some (iv z)) (show (1 : Int) = if (0 ≤ ((cn : Nat) : Int) ∧ ((cn : Nat) : Int) < (m_nr : Int)) ∧ (v = 0 ∨ v = 1) then m_ct ((cn : Nat) : Int).toNat else -2000000001 by (try simp only [Int.toNat_natCast]); first | (rw [if_neg (by omega)]; done) | (rw [if_pos (by omega)]; omega)), (by (try simp only [Int.toNat_natCast]); first | (rw [if_neg (by omega)]; done) | (rw [if_pos (by omega), show v = 1 by omega]; done) | (rw [if_pos (by omega), show v = 0 by omega]; done))⟩ dX7_counts_52
    · skip
      refine g_ldc F (-2000000001) (by decide) (List.mem_of_getElem? (i := 1) rfl) dX7_counts_17 ?_
      exact g_zret F rfl rfl (by decide) (by decide) ⟨congrArg (fun z => some (iv z)) (show (-2000000001 : Int) = if (0 ≤ ((cn : Nat) : Int) ∧ ((cn : Nat) : Int) < (m_nr : Int)) ∧ (v = 0 ∨ v = 1) then m_ct ((cn : Nat) : Int).toNat else -2000000001 by (try simp only [Int.toNat_natCast]); first | (rw [if_neg (by omega)]; done) | (rw [if_pos (by omega)]; omega)), (by (try simp only [Int.toNat_natCast]); first | (rw [if_neg (by omega)]; done) | (rw [if_pos (by omega), show v = 1 by omega]; done) | (rw [if_pos (by omega), show v = 0 by omega]; done))⟩ dX7_counts_19

set_option maxHeartbeats 4000000 in
set_option maxRecDepth 100000 in
theorem kX7_partner (l : Launch) (D : va_G) (cA : Nat → ClassId) (m : Nat → Nat) (m_nc : Nat) (m_nr : Nat) (m_ke : Int) (m_so : Int) (m_bu : Int) (m_bc : Int) (m_pu : Int) (m_qu : Int) (m_fs : Int) (m_cd : Int) (m_un : Int) (m_hb : Int) (m_pf : Int) (m_ef : Int) (m_kd : Nat → Int) (m_lo : Nat → Int) (m_hi : Nat → Int) (m_co : Nat → Int) (m_pa : Nat → Int) (m_rk : Nat → Int) (m_nu : Nat → Int) (m_ct : Nat → Int) (m_sa : Nat → Int) (c : Int) (v : Int) (hc : -2147483648 ≤ c ∧ c ≤ 2147483647) (hv : -2147483648 ≤ v ∧ v ≤ 2147483647) (qnc : m_nc ≤ 5) (qnr : m_nr ≤ 7) (qkd : ∀ j, 0 ≤ m_kd j ∧ m_kd j ≤ 2) : CT l yX7_partner wsX7_partner ({ frames := 2, cells := 0, slots := 0, locals := 43 }) D cA [.ref (m 0), iv (c), iv (v)] (wMO cA m (((m_nc : Nat) : Int)) (((m_nr : Nat) : Int)) (m_ke) (m_so) (m_bu) (m_bc) (m_pu) (m_qu) (m_fs) (m_cd) (m_un) (m_hb) (m_pf) (m_ef) ++ wMP cA m (m_kd) (m_lo) (m_hi) (m_co) (m_pa) (m_rk) (m_nu) (m_ct) (m_sa)) (fun ov ow => ov = some (iv (if (0 ≤ c ∧ c < (m_nc : Int)) ∧ ¬ v = c ∧ (v = -2000000005 ∨ (0 ≤ v ∧ v < (m_nc : Int))) then (if m_kd c.toNat = 2 then m_pa c.toNat else -2000000002) else -2000000001)) ∧ ow = if ((0 ≤ c ∧ c < (m_nc : Int)) ∧ ¬ v = c ∧ (v = -2000000005 ∨ (0 ≤ v ∧ v < (m_nc : Int)))) ∧ m_kd c.toNat = 2 then wMO cA m (((m_nc : Nat) : Int)) (((m_nr : Nat) : Int)) (m_ke) (m_so) (m_bu) (m_bc) (m_pu) (m_qu) (m_fs) (m_cd) (m_un) (m_hb) (m_pf) (m_ef) ++ wMP cA m (m_kd) (m_lo) (m_hi) (m_co) (va_up m_pa c.toNat v) (m_rk) (m_nu) (m_ct) (m_sa) else wMO cA m (((m_nc : Nat) : Int)) (((m_nr : Nat) : Int)) (m_ke) (m_so) (m_bu) (m_bc) (m_pu) (m_qu) (m_fs) (m_cd) (m_un) (m_hb) (m_pf) (m_ef) ++ wMP cA m (m_kd) (m_lo) (m_hi) (m_co) (m_pa) (m_rk) (m_nu) (m_ct) (m_sa)) 0 0 := by
  refine CT.mk (cc := cX7_partner) (maxL := 4) (ret := (some .int)) (by decide +kernel) rfl (Nat.le_of_ble_eq_true rfl) ?_
  intro p_ e_ s_ m_ b_ me_ c_ A F hnm hA
  have hV := @IM_P D s_ A
  have iX7 : ∀ w ∈ u_ws RX7 TX7 38, w ∈ wsX7_partner := by decide +kernel
  refine g_lsub ([(0, .ref (m 0)), (1, iv (c)), (2, iv (v))]) [0, 1, 2] rfl ?_
  refine g_aload_n F 0 rfl rfl dX7_partner_0 ?_
  refine g_iload_n F 1 rfl rfl dX7_partner_1 ?_
  refine g_callRV F hV (As := [iv (c)]) (rest := []) (kX7_isColumn l D cA m m_nc m_nr m_ke m_so m_bu m_bc m_pu m_qu m_fs m_cd m_un m_hb m_pf m_ef c (by omega) (qnc)) (cwV 1 F.2.2.2.2.1 gX7_partner_X7_isColumn rfl rfl rfl (by decide +kernel) ⟨Nat.le_of_ble_eq_true rfl, Nat.le_of_ble_eq_true rfl⟩) rfl rfl (q0 := 0) rfl [0] rfl rfl rfl (Nat.le_of_ble_eq_true rfl) ⟨Nat.le_of_ble_eq_true rfl, Nat.le_of_ble_eq_true rfl⟩ dX7_partner_2 (fun v hv => ?_)
  subst hv
  refine g_eq (st' := [iv (if 0 ≤ c ∧ c < (m_nc : Int) then 1 else 0)]) rfl rfl rfl ?_
  refine g_ifb_eq F (tgt := 27) dX7_partner_5 (by decide) (fun c_1 => ?_) (fun c_1 => ?_)
  · skip
    refine g_ldc F (-2000000001) (by decide) (List.mem_of_getElem? (i := 2) rfl) dX7_partner_27 ?_
    exact g_zret F rfl rfl (by decide) (by decide) ⟨congrArg (fun z => some (iv z)) (show (-2000000001 : Int) = if (0 ≤ c ∧ c < (m_nc : Int)) ∧ ¬ v = c ∧ (v = -2000000005 ∨ (0 ≤ v ∧ v < (m_nc : Int))) then (if m_kd c.toNat = 2 then m_pa c.toNat else -2000000002) else -2000000001 by (try simp only [Int.toNat_natCast]); first | (rw [if_neg (by omega)]; done) | (rw [if_pos (by omega), if_pos (by omega)]; done) | (rw [if_pos (by omega), if_neg (by omega)]; done)), (by (try simp only [Int.toNat_natCast]); first | (rw [if_neg (by omega)]; done) | (rw [if_pos (by omega)]; done))⟩ dX7_partner_29
  · skip
    obtain ⟨cn, hcn⟩ : ∃ y : Nat, c = (y : Int) := ⟨c.toNat, by omega⟩
    subst hcn
    refine g_iload_n F 2 rfl rfl dX7_partner_8 ?_
    refine g_ldc F (-2000000005) (by decide) (List.mem_of_getElem? (i := 1) rfl) dX7_partner_9 ?_
    refine g_icmp_eq F (tgt := 22) dX7_partner_11 (by decide) ⟨by omega, by omega⟩ ⟨by decide, by decide⟩ (fun c_2 => ?_) (fun c_2 => ?_)
    · skip
      refine g_iload_n F 2 rfl rfl dX7_partner_22 ?_
      refine g_iload_n F 1 rfl rfl dX7_partner_23 ?_
      refine g_icmp_ne F (tgt := 30) dX7_partner_24 (by decide) ⟨by omega, by omega⟩ ⟨by omega, by omega⟩ (fun c_3 => ?_) (fun c_3 => ?_)
      · skip
        refine g_aload_n F 0 rfl rfl dX7_partner_30 ?_
        refine g_get F hV iX7 0 rfl rfl 1 (by decide) (List.mem_of_getElem? (i := 3) rfl) rfl dX7_partner_31 ?_
        refine g_iload_n F 1 rfl rfl dX7_partner_34 ?_
        have r_4 := qkd (cn)
        refine g_iald F hV 1 rfl (cn) (by omega) (by omega) (by decide) dX7_partner_35 ?_
        refine g_iconst F dX7_partner_36 ?_
        refine g_icmp_eq F (tgt := 43) dX7_partner_37 (by decide) ⟨by omega, by omega⟩ ⟨by decide, by decide⟩ (fun c_5 => ?_) (fun c_5 => ?_)
        · skip
          refine g_aload_n F 0 rfl rfl dX7_partner_43 ?_
          refine g_get F hV iX7 0 rfl rfl 5 (by decide) (List.mem_of_getElem? (i := 5) rfl) rfl dX7_partner_44 ?_
          refine g_iload_n F 1 rfl rfl dX7_partner_47 ?_
          refine g_iald F hV 5 rfl (cn) (by omega) (by omega) (by decide) dX7_partner_48 ?_
          refine g_istore_n F ([(3, iv (m_pa cn)), (0, .ref (m 0)), (1, iv (((cn : Nat) : Int))), (2, iv (v))]) rfl rfl (by decide) dX7_partner_49 ?_
          refine g_aload_n F 1 rfl rfl dX7_partner_50 ?_
          refine g_get F hV iX7 0 rfl rfl 5 (by decide) (List.mem_of_getElem? (i := 5) rfl) rfl dX7_partner_51 ?_
          refine g_iload_n F 2 rfl rfl dX7_partner_54 ?_
          refine g_iload_n F 3 rfl rfl dX7_partner_55 ?_
          refine g_iast F 5 rfl (cn) (by omega) (by omega) (by decide) (wMO cA m (((m_nc : Nat) : Int)) (((m_nr : Nat) : Int)) (m_ke) (m_so) (m_bu) (m_bc) (m_pu) (m_qu) (m_fs) (m_cd) (m_un) (m_hb) (m_pf) (m_ef) ++ wMP cA m (m_kd) (m_lo) (m_hi) (m_co) (va_up m_pa cn v) (m_rk) (m_nu) (m_ct) (m_sa)) rfl dX7_partner_56 ?_
          refine g_iload_n F 0 rfl rfl dX7_partner_57 ?_
          exact g_zret F rfl rfl (by decide) (by decide) ⟨congrArg (fun z => some (iv z)) (show (m_pa cn : Int) = if (0 ≤ ((cn : Nat) : Int) ∧ ((cn : Nat) : Int) < (m_nc : Int)) ∧ ¬ v = ((cn : Nat) : Int) ∧ (v = -2000000005 ∨ (0 ≤ v ∧ v < (m_nc : Int))) then (if m_kd ((cn : Nat) : Int).toNat = 2 then m_pa ((cn : Nat) : Int).toNat else -2000000002) else -2000000001 by (try simp only [Int.toNat_natCast]); first | (rw [if_neg (by omega)]; done) | (rw [if_pos (by omega), if_pos (by omega)]; done) | (rw [if_pos (by omega), if_neg (by omega)]; done)), (by (try simp only [Int.toNat_natCast]); first | (rw [if_neg (by omega)]; done) | (rw [if_pos (by omega)]; done))⟩ dX7_partner_58
        · skip
          refine g_ldc F (-2000000002) (by decide) (List.mem_of_getElem? (i := 4) rfl) dX7_partner_40 ?_
          exact g_zret F rfl rfl (by decide) (by decide) ⟨congrArg (fun z => some (iv z)) (show (-2000000002 : Int) = if (0 ≤ ((cn : Nat) : Int) ∧ ((cn : Nat) : Int) < (m_nc : Int)) ∧ ¬ v = ((cn : Nat) : Int) ∧ (v = -2000000005 ∨ (0 ≤ v ∧ v < (m_nc : Int))) then (if m_kd ((cn : Nat) : Int).toNat = 2 then m_pa ((cn : Nat) : Int).toNat else -2000000002) else -2000000001 by (try simp only [Int.toNat_natCast]); first | (rw [if_neg (by omega)]; done) | (rw [if_pos (by omega), if_pos (by omega)]; done) | (rw [if_pos (by omega), if_neg (by omega)]; done)), (by (try simp only [Int.toNat_natCast]); first | (rw [if_neg (by omega)]; done) | (rw [if_pos (by omega)]; done))⟩ dX7_partner_42
      · skip
        refine g_ldc F (-2000000001) (by decide) (List.mem_of_getElem? (i := 2) rfl) dX7_partner_27 ?_
        exact g_zret F rfl rfl (by decide) (by decide) ⟨congrArg (fun z => some (iv z)) (show (-2000000001 : Int) = if (0 ≤ ((cn : Nat) : Int) ∧ ((cn : Nat) : Int) < (m_nc : Int)) ∧ ¬ v = ((cn : Nat) : Int) ∧ (v = -2000000005 ∨ (0 ≤ v ∧ v < (m_nc : Int))) then (if m_kd ((cn : Nat) : Int).toNat = 2 then m_pa ((cn : Nat) : Int).toNat else -2000000002) else -2000000001 by (try simp only [Int.toNat_natCast]); first | (rw [if_neg (by omega)]; done) | (rw [if_pos (by omega), if_pos (by omega)]; done) | (rw [if_pos (by omega), if_neg (by omega)]; done)), (by (try simp only [Int.toNat_natCast]); first | (rw [if_neg (by omega)]; done) | (rw [if_pos (by omega)]; done))⟩ dX7_partner_29
    · skip
      refine g_aload_n F 0 rfl rfl dX7_partner_14 ?_
      refine g_iload_n F 2 rfl rfl dX7_partner_15 ?_
      refine g_callRV F hV (As := [iv (v)]) (rest := []) (kX7_isColumn l D cA m m_nc m_nr m_ke m_so m_bu m_bc m_pu m_qu m_fs m_cd m_un m_hb m_pf m_ef v (by omega) (qnc)) (cwV 1 F.2.2.2.2.1 gX7_partner_X7_isColumn rfl rfl rfl (by decide +kernel) ⟨Nat.le_of_ble_eq_true rfl, Nat.le_of_ble_eq_true rfl⟩) rfl rfl (q0 := 0) rfl [0] rfl rfl rfl (Nat.le_of_ble_eq_true rfl) ⟨Nat.le_of_ble_eq_true rfl, Nat.le_of_ble_eq_true rfl⟩ dX7_partner_16 (fun v hv => ?_)
      subst hv
      refine g_eq (st' := [iv (if 0 ≤ v ∧ v < (m_nc : Int) then 1 else 0)]) rfl rfl rfl ?_
      refine g_ifb_eq F (tgt := 27) dX7_partner_19 (by decide) (fun c_6 => ?_) (fun c_6 => ?_)
      · skip
        refine g_ldc F (-2000000001) (by decide) (List.mem_of_getElem? (i := 2) rfl) dX7_partner_27 ?_
        exact g_zret F rfl rfl (by decide) (by decide) ⟨congrArg (fun z => some (iv z)) (show (-2000000001 : Int) = if (0 ≤ ((cn : Nat) : Int) ∧ ((cn : Nat) : Int) < (m_nc : Int)) ∧ ¬ v = ((cn : Nat) : Int) ∧ (v = -2000000005 ∨ (0 ≤ v ∧ v < (m_nc : Int))) then (if m_kd ((cn : Nat) : Int).toNat = 2 then m_pa ((cn : Nat) : Int).toNat else -2000000002) else -2000000001 by (try simp only [Int.toNat_natCast]); first | (rw [if_neg (by omega)]; done) | (rw [if_pos (by omega), if_pos (by omega)]; done) | (rw [if_pos (by omega), if_neg (by omega)]; done)), (by (try simp only [Int.toNat_natCast]); first | (rw [if_neg (by omega)]; done) | (rw [if_pos (by omega)]; done))⟩ dX7_partner_29
      · skip
        refine g_iload_n F 2 rfl rfl dX7_partner_22 ?_
        refine g_iload_n F 1 rfl rfl dX7_partner_23 ?_
        refine g_icmp_ne F (tgt := 30) dX7_partner_24 (by decide) ⟨by omega, by omega⟩ ⟨by omega, by omega⟩ (fun c_7 => ?_) (fun c_7 => ?_)
        · skip
          refine g_aload_n F 0 rfl rfl dX7_partner_30 ?_
          refine g_get F hV iX7 0 rfl rfl 1 (by decide) (List.mem_of_getElem? (i := 3) rfl) rfl dX7_partner_31 ?_
          refine g_iload_n F 1 rfl rfl dX7_partner_34 ?_
          have r_8 := qkd (cn)
          refine g_iald F hV 1 rfl (cn) (by omega) (by omega) (by decide) dX7_partner_35 ?_
          refine g_iconst F dX7_partner_36 ?_
          refine g_icmp_eq F (tgt := 43) dX7_partner_37 (by decide) ⟨by omega, by omega⟩ ⟨by decide, by decide⟩ (fun c_9 => ?_) (fun c_9 => ?_)
          · skip
            refine g_aload_n F 0 rfl rfl dX7_partner_43 ?_
            refine g_get F hV iX7 0 rfl rfl 5 (by decide) (List.mem_of_getElem? (i := 5) rfl) rfl dX7_partner_44 ?_
            refine g_iload_n F 1 rfl rfl dX7_partner_47 ?_
            refine g_iald F hV 5 rfl (cn) (by omega) (by omega) (by decide) dX7_partner_48 ?_
            refine g_istore_n F ([(3, iv (m_pa cn)), (0, .ref (m 0)), (1, iv (((cn : Nat) : Int))), (2, iv (v))]) rfl rfl (by decide) dX7_partner_49 ?_
            refine g_aload_n F 1 rfl rfl dX7_partner_50 ?_
            refine g_get F hV iX7 0 rfl rfl 5 (by decide) (List.mem_of_getElem? (i := 5) rfl) rfl dX7_partner_51 ?_
            refine g_iload_n F 2 rfl rfl dX7_partner_54 ?_
            refine g_iload_n F 3 rfl rfl dX7_partner_55 ?_
            refine g_iast F 5 rfl (cn) (by omega) (by omega) (by decide) (wMO cA m (((m_nc : Nat) : Int)) (((m_nr : Nat) : Int)) (m_ke) (m_so) (m_bu) (m_bc) (m_pu) (m_qu) (m_fs) (m_cd) (m_un) (m_hb) (m_pf) (m_ef) ++ wMP cA m (m_kd) (m_lo) (m_hi) (m_co) (va_up m_pa cn v) (m_rk) (m_nu) (m_ct) (m_sa)) rfl dX7_partner_56 ?_
            refine g_iload_n F 0 rfl rfl dX7_partner_57 ?_
            exact g_zret F rfl rfl (by decide) (by decide) ⟨congrArg (fun z => some (iv z)) (show (m_pa cn : Int) = if (0 ≤ ((cn : Nat) : Int) ∧ ((cn : Nat) : Int) < (m_nc : Int)) ∧ ¬ v = ((cn : Nat) : Int) ∧ (v = -2000000005 ∨ (0 ≤ v ∧ v < (m_nc : Int))) then (if m_kd ((cn : Nat) : Int).toNat = 2 then m_pa ((cn : Nat) : Int).toNat else -2000000002) else -2000000001 by (try simp only [Int.toNat_natCast]); first | (rw [if_neg (by omega)]; done) | (rw [if_pos (by omega), if_pos (by omega)]; done) | (rw [if_pos (by omega), if_neg (by omega)]; done)), (by (try simp only [Int.toNat_natCast]); first | (rw [if_neg (by omega)]; done) | (rw [if_pos (by omega)]; done))⟩ dX7_partner_58
          · skip
            refine g_ldc F (-2000000002) (by decide) (List.mem_of_getElem? (i := 4) rfl) dX7_partner_40 ?_
            exact g_zret F rfl rfl (by decide) (by decide) ⟨congrArg (fun z => some (iv z)) (show (-2000000002 : Int) = if (0 ≤ ((cn : Nat) : Int) ∧ ((cn : Nat) : Int) < (m_nc : Int)) ∧ ¬ v = ((cn : Nat) : Int) ∧ (v = -2000000005 ∨ (0 ≤ v ∧ v < (m_nc : Int))) then (if m_kd ((cn : Nat) : Int).toNat = 2 then m_pa ((cn : Nat) : Int).toNat else -2000000002) else -2000000001 by (try simp only [Int.toNat_natCast]); first | (rw [if_neg (by omega)]; done) | (rw [if_pos (by omega), if_pos (by omega)]; done) | (rw [if_pos (by omega), if_neg (by omega)]; done)), (by (try simp only [Int.toNat_natCast]); first | (rw [if_neg (by omega)]; done) | (rw [if_pos (by omega)]; done))⟩ dX7_partner_42
        · skip
          refine g_ldc F (-2000000001) (by decide) (List.mem_of_getElem? (i := 2) rfl) dX7_partner_27 ?_
          exact g_zret F rfl rfl (by decide) (by decide) ⟨congrArg (fun z => some (iv z)) (show (-2000000001 : Int) = if (0 ≤ ((cn : Nat) : Int) ∧ ((cn : Nat) : Int) < (m_nc : Int)) ∧ ¬ v = ((cn : Nat) : Int) ∧ (v = -2000000005 ∨ (0 ≤ v ∧ v < (m_nc : Int))) then (if m_kd ((cn : Nat) : Int).toNat = 2 then m_pa ((cn : Nat) : Int).toNat else -2000000002) else -2000000001 by (try simp only [Int.toNat_natCast]); first | (rw [if_neg (by omega)]; done) | (rw [if_pos (by omega), if_pos (by omega)]; done) | (rw [if_pos (by omega), if_neg (by omega)]; done)), (by (try simp only [Int.toNat_natCast]); first | (rw [if_neg (by omega)]; done) | (rw [if_pos (by omega)]; done))⟩ dX7_partner_29

set_option maxHeartbeats 4000000 in
set_option maxRecDepth 100000 in
theorem kX7_bound (l : Launch) (D : va_G) (cA : Nat → ClassId) (m : Nat → Nat) (m_nc : Nat) (m_nr : Nat) (m_ke : Int) (m_so : Int) (m_bu : Int) (m_bc : Int) (m_pu : Int) (m_qu : Int) (m_fs : Int) (m_cd : Int) (m_un : Int) (m_hb : Int) (m_pf : Int) (m_ef : Int) (m_kd : Nat → Int) (m_lo : Nat → Int) (m_hi : Nat → Int) (m_co : Nat → Int) (m_pa : Nat → Int) (m_rk : Nat → Int) (m_nu : Nat → Int) (m_ct : Nat → Int) (m_sa : Nat → Int) (c : Int) (v : Int) (w : Int) (hc : -2147483648 ≤ c ∧ c ≤ 2147483647) (hv : -2147483648 ≤ v ∧ v ≤ 2147483647) (hw : -2147483648 ≤ w ∧ w ≤ 2147483647) (qnc : m_nc ≤ 5) (qnr : m_nr ≤ 7) (qkd : ∀ j, 0 ≤ m_kd j ∧ m_kd j ≤ 2) : CT l yX7_bound wsX7_bound ({ frames := 2, cells := 0, slots := 0, locals := 44 }) D cA [.ref (m 0), iv (c), iv (v), iv (w)] (wMO cA m (((m_nc : Nat) : Int)) (((m_nr : Nat) : Int)) (m_ke) (m_so) (m_bu) (m_bc) (m_pu) (m_qu) (m_fs) (m_cd) (m_un) (m_hb) (m_pf) (m_ef) ++ wMP cA m (m_kd) (m_lo) (m_hi) (m_co) (m_pa) (m_rk) (m_nu) (m_ct) (m_sa)) (fun ov ow => ov = some (iv (if 0 ≤ c ∧ c < (m_nc : Int) then (if m_kd c.toNat = 2 then -2000000002 else if fitsP (m_kd c.toNat) v w then 0 else -2000000001) else -2000000001)) ∧ ow = if (0 ≤ c ∧ c < (m_nc : Int)) ∧ ¬ m_kd c.toNat = 2 ∧ fitsP (m_kd c.toNat) v w then wMO cA m (((m_nc : Nat) : Int)) (((m_nr : Nat) : Int)) (m_ke) (m_so) (m_bu) (m_bc) (m_pu) (m_qu) (m_fs) (m_cd) (m_un) (m_hb) (m_pf) (m_ef) ++ wMP cA m (m_kd) (va_up m_lo c.toNat v) (va_up m_hi c.toNat w) (m_co) (m_pa) (m_rk) (m_nu) (m_ct) (m_sa) else wMO cA m (((m_nc : Nat) : Int)) (((m_nr : Nat) : Int)) (m_ke) (m_so) (m_bu) (m_bc) (m_pu) (m_qu) (m_fs) (m_cd) (m_un) (m_hb) (m_pf) (m_ef) ++ wMP cA m (m_kd) (m_lo) (m_hi) (m_co) (m_pa) (m_rk) (m_nu) (m_ct) (m_sa)) 0 0 := by
  refine CT.mk (cc := cX7_bound) (maxL := 4) (ret := (some .int)) (by decide +kernel) rfl (Nat.le_of_ble_eq_true rfl) ?_
  intro p_ e_ s_ m_ b_ me_ c_ A F hnm hA
  have hV := @IM_P D s_ A
  have iX7 : ∀ w ∈ u_ws RX7 TX7 38, w ∈ wsX7_bound := by decide +kernel
  refine g_lsub ([(0, .ref (m 0)), (1, iv (c)), (2, iv (v)), (3, iv (w))]) [0, 1, 2, 3] rfl ?_
  refine g_aload_n F 0 rfl rfl dX7_bound_0 ?_
  refine g_iload_n F 1 rfl rfl dX7_bound_1 ?_
  refine g_callRV F hV (As := [iv (c)]) (rest := []) (kX7_isColumn l D cA m m_nc m_nr m_ke m_so m_bu m_bc m_pu m_qu m_fs m_cd m_un m_hb m_pf m_ef c (by omega) (qnc)) (cwV 1 F.2.2.2.2.1 gX7_bound_X7_isColumn rfl rfl rfl (by decide +kernel) ⟨Nat.le_of_ble_eq_true rfl, Nat.le_of_ble_eq_true rfl⟩) rfl rfl (q0 := 0) rfl [0] rfl rfl rfl (Nat.le_of_ble_eq_true rfl) ⟨Nat.le_of_ble_eq_true rfl, Nat.le_of_ble_eq_true rfl⟩ dX7_bound_2 (fun v hv => ?_)
  subst hv
  refine g_eq (st' := [iv (if 0 ≤ c ∧ c < (m_nc : Int) then 1 else 0)]) rfl rfl rfl ?_
  refine g_ifb_ne F (tgt := 11) dX7_bound_5 (by decide) (fun c_1 => ?_) (fun c_1 => ?_)
  · skip
    obtain ⟨cn, hcn⟩ : ∃ y : Nat, c = (y : Int) := ⟨c.toNat, by omega⟩
    subst hcn
    refine g_aload_n F 0 rfl rfl dX7_bound_11 ?_
    refine g_get F hV iX7 0 rfl rfl 1 (by decide) (List.mem_of_getElem? (i := 2) rfl) rfl dX7_bound_12 ?_
    refine g_iload_n F 1 rfl rfl dX7_bound_15 ?_
    have r_2 := qkd (cn)
    refine g_iald F hV 1 rfl (cn) (by omega) (by omega) (by decide) dX7_bound_16 ?_
    refine g_iconst F dX7_bound_17 ?_
    refine g_icmp_ne F (tgt := 24) dX7_bound_18 (by decide) ⟨by omega, by omega⟩ ⟨by decide, by decide⟩ (fun c_3 => ?_) (fun c_3 => ?_)
    · skip
      refine g_aload_n F 0 rfl rfl dX7_bound_24 ?_
      refine g_get F hV iX7 0 rfl rfl 1 (by decide) (List.mem_of_getElem? (i := 2) rfl) rfl dX7_bound_25 ?_
      refine g_iload_n F 1 rfl rfl dX7_bound_28 ?_
      have r_4 := qkd (cn)
      refine g_iald F hV 1 rfl (cn) (by omega) (by omega) (by decide) dX7_bound_29 ?_
      refine g_iload_n F 2 rfl rfl dX7_bound_30 ?_
      refine g_iload_n F 3 rfl rfl dX7_bound_31 ?_
      refine g_callRS F hV (As := [iv (m_kd cn), iv (v), iv (w)]) (rest := []) (kX7_areBounds l D cA (m_kd cn) v w (by omega) (by omega) (by have := qkd cn; omega)) (va_cwS 3 F.2.2.2.2.1 gX7_bound_X7_areBounds rfl rfl rfl (by decide +kernel) ⟨Nat.le_of_ble_eq_true rfl, Nat.le_of_ble_eq_true rfl⟩) [] rfl rfl rfl (Nat.le_of_ble_eq_true rfl) ⟨Nat.le_of_ble_eq_true rfl, Nat.le_of_ble_eq_true rfl⟩ dX7_bound_32 (fun v hv => ?_)
      subst hv
      refine g_eq (st' := [iv (if fitsP (m_kd cn) v w then 1 else 0)]) rfl rfl rfl ?_
      refine g_ifb_ne F (tgt := 41) dX7_bound_35 (by decide) (fun c_5 => ?_) (fun c_5 => ?_)
      · skip
        refine g_aload_n F 0 rfl rfl dX7_bound_41 ?_
        refine g_get F hV iX7 0 rfl rfl 2 (by decide) (List.mem_of_getElem? (i := 4) rfl) rfl dX7_bound_42 ?_
        refine g_iload_n F 1 rfl rfl dX7_bound_45 ?_
        refine g_iload_n F 2 rfl rfl dX7_bound_46 ?_
        refine g_iast F 2 rfl (cn) (by omega) (by omega) (by decide) (wMO cA m (((m_nc : Nat) : Int)) (((m_nr : Nat) : Int)) (m_ke) (m_so) (m_bu) (m_bc) (m_pu) (m_qu) (m_fs) (m_cd) (m_un) (m_hb) (m_pf) (m_ef) ++ wMP cA m (m_kd) (va_up m_lo cn v) (m_hi) (m_co) (m_pa) (m_rk) (m_nu) (m_ct) (m_sa)) rfl dX7_bound_47 ?_
        refine g_aload_n F 0 rfl rfl dX7_bound_48 ?_
        refine g_get F hV iX7 0 rfl rfl 3 (by decide) (List.mem_of_getElem? (i := 5) rfl) rfl dX7_bound_49 ?_
        refine g_iload_n F 1 rfl rfl dX7_bound_52 ?_
        refine g_iload_n F 3 rfl rfl dX7_bound_53 ?_
        refine g_iast F 3 rfl (cn) (by omega) (by omega) (by decide) (wMO cA m (((m_nc : Nat) : Int)) (((m_nr : Nat) : Int)) (m_ke) (m_so) (m_bu) (m_bc) (m_pu) (m_qu) (m_fs) (m_cd) (m_un) (m_hb) (m_pf) (m_ef) ++ wMP cA m (m_kd) (va_up m_lo cn v) (va_up m_hi cn w) (m_co) (m_pa) (m_rk) (m_nu) (m_ct) (m_sa)) rfl dX7_bound_54 ?_
        refine g_iconst F dX7_bound_55 ?_
        exact g_zret F rfl rfl (by decide) (by decide) ⟨congrArg (fun z => some (iv z)) (show (0 : Int) = if 0 ≤ ((cn : Nat) : Int) ∧ ((cn : Nat) : Int) < (m_nc : Int) then (if m_kd ((cn : Nat) : Int).toNat = 2 then -2000000002 else if fitsP (m_kd ((cn : Nat) : Int).toNat) v w then 0 else -2000000001) else -2000000001 by (try simp only [Int.toNat_natCast]); first | (rw [if_neg (by omega)]; done) | (rw [if_pos (by omega), if_pos (by omega)]; done) | (rw [if_pos (by omega), if_neg (by omega), if_pos (by assumption)]; done) | (rw [if_pos (by omega), if_neg (by omega), if_neg (by assumption)]; done)), (by (try simp only [Int.toNat_natCast]); first | (rw [if_neg (fun z => absurd z.1 (by omega))]; done) | (rw [if_neg (fun z => absurd z.2.1 (by omega))]; done) | (rw [if_neg (fun z => absurd z.2.2 (by assumption))]; done) | (rw [if_pos ⟨by omega, by omega, by assumption⟩]; done))⟩ dX7_bound_56
      · skip
        refine g_ldc F (-2000000001) (by decide) (List.mem_of_getElem? (i := 1) rfl) dX7_bound_38 ?_
        exact g_zret F rfl rfl (by decide) (by decide) ⟨congrArg (fun z => some (iv z)) (show (-2000000001 : Int) = if 0 ≤ ((cn : Nat) : Int) ∧ ((cn : Nat) : Int) < (m_nc : Int) then (if m_kd ((cn : Nat) : Int).toNat = 2 then -2000000002 else if fitsP (m_kd ((cn : Nat) : Int).toNat) v w then 0 else -2000000001) else -2000000001 by (try simp only [Int.toNat_natCast]); first | (rw [if_neg (by omega)]; done) | (rw [if_pos (by omega), if_pos (by omega)]; done) | (rw [if_pos (by omega), if_neg (by omega), if_pos (by assumption)]; done) | (rw [if_pos (by omega), if_neg (by omega), if_neg (by assumption)]; done)), (by (try simp only [Int.toNat_natCast]); first | (rw [if_neg (fun z => absurd z.1 (by omega))]; done) | (rw [if_neg (fun z => absurd z.2.1 (by omega))]; done) | (rw [if_neg (fun z => absurd z.2.2 (by assumption))]; done) | (rw [if_pos ⟨by omega, by omega, by assumption⟩]; done))⟩ dX7_bound_40
    · skip
      refine g_ldc F (-2000000002) (by decide) (List.mem_of_getElem? (i := 3) rfl) dX7_bound_21 ?_
      exact g_zret F rfl rfl (by decide) (by decide) ⟨congrArg (fun z => some (iv z)) (show (-2000000002 : Int) = if 0 ≤ ((cn : Nat) : Int) ∧ ((cn : Nat) : Int) < (m_nc : Int) then (if m_kd ((cn : Nat) : Int).toNat = 2 then -2000000002 else if fitsP (m_kd ((cn : Nat) : Int).toNat) v w then 0 else -2000000001) else -2000000001 by (try simp only [Int.toNat_natCast]); first | (rw [if_neg (by omega)]; done) | (rw [if_pos (by omega), if_pos (by omega)]; done) | (rw [if_pos (by omega), if_neg (by omega), if_pos (by assumption)]; done) | (rw [if_pos (by omega), if_neg (by omega), if_neg (by assumption)]; done)), (by (try simp only [Int.toNat_natCast]); first | (rw [if_neg (fun z => absurd z.1 (by omega))]; done) | (rw [if_neg (fun z => absurd z.2.1 (by omega))]; done) | (rw [if_neg (fun z => absurd z.2.2 (by assumption))]; done) | (rw [if_pos ⟨by omega, by omega, by assumption⟩]; done))⟩ dX7_bound_23
  · skip
    refine g_ldc F (-2000000001) (by decide) (List.mem_of_getElem? (i := 1) rfl) dX7_bound_8 ?_
    exact g_zret F rfl rfl (by decide) (by decide) ⟨congrArg (fun z => some (iv z)) (show (-2000000001 : Int) = if 0 ≤ c ∧ c < (m_nc : Int) then (if m_kd c.toNat = 2 then -2000000002 else if fitsP (m_kd c.toNat) v w then 0 else -2000000001) else -2000000001 by (try simp only [Int.toNat_natCast]); first | (rw [if_neg (by omega)]; done) | (rw [if_pos (by omega), if_pos (by omega)]; done) | (rw [if_pos (by omega), if_neg (by omega), if_pos (by assumption)]; done) | (rw [if_pos (by omega), if_neg (by omega), if_neg (by assumption)]; done)), (by (try simp only [Int.toNat_natCast]); first | (rw [if_neg (fun z => absurd z.1 (by omega))]; done) | (rw [if_neg (fun z => absurd z.2.1 (by omega))]; done) | (rw [if_neg (fun z => absurd z.2.2 (by assumption))]; done) | (rw [if_pos ⟨by omega, by omega, by assumption⟩]; done))⟩ dX7_bound_10
