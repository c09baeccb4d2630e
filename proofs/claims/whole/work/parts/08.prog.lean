def anyZ (f : Nat → Bool) : Nat → Bool
  | 0 => false
  | n + 1 => anyZ f n || f n
theorem anyZ_succ (f : Nat → Bool) (n : Nat) : anyZ f (n + 1) = (anyZ f n || f n) := rfl
theorem anyZ_of {f : Nat → Bool} {c : Nat} (h : f c = true) : ∀ {n : Nat}, c < n → anyZ f n = true
  | 0, h1 => absurd h1 (Nat.not_lt_zero c)
  | n + 1, h1 => by
    rw [anyZ_succ]
    by_cases h2 : c = n
    · subst h2; simp [h]
    · rw [anyZ_of h (show c < n by omega)]; rfl
def gcdZ (f : Nat → Int) : Nat → Nat
  | 0 => 0
  | n + 1 => Int.gcd (gcdZ f n : Int) (f n)
theorem gcdZ_le {f : Nat → Int} (h : ∀ j, -9 ≤ f j ∧ f j ≤ 9) : ∀ n, gcdZ f n ≤ 9
  | 0 => by simp [gcdZ]
  | n + 1 => by
    have ih := gcdZ_le h n
    have hn := h n
    unfold gcdZ
    by_cases h0 : f n = 0
    · rw [h0]; simp; omega
    · have h1 : Int.gcd (gcdZ f n : Int) (f n) ≤ (f n).natAbs := Nat.le_of_dvd (by omega) (Int.natAbs_dvd_natAbs.mpr (Int.gcd_dvd_right _ _) |> fun q => by simpa using q)
      omega
/-- what divides each sum of a row, 0 where nothing is known to -/
def divZ (kd sa : Nat → Int) (r nc : Nat) : Int := if anyZ (fun j => decide (sa (r * 5 + j) ≠ 0) && decide (kd j < 1)) nc then 0 else ((gcdZ (fun j => sa (r * 5 + j)) nc : Nat) : Int)
set_option maxHeartbeats 4000000 in
set_option maxRecDepth 100000 in
theorem kX2_fits (l : Launch) (D : va_G) (cA : Nat → ClassId) (k : Int) (x : Int) (y : Int) (hk : 0 ≤ k ∧ k ≤ 2) (hx : -2147483648 ≤ x ∧ x ≤ 2147483647) (hy : -2147483648 ≤ y ∧ y ≤ 2147483647) : CR l yX2_fits wsX2_fits ({ frames := 1, cells := 0, slots := 0, locals := 21 }) D cA [iv (k), iv (x), iv (y)] ([]) (fun ov => ov = some (iv (if fitsP k x y then 1 else 0))) := by
  refine CR.mk (cc := cX2_fits) (maxL := 3) (ret := (some .boolean)) (by decide +kernel) rfl (Nat.le_of_ble_eq_true rfl) ?_
  intro p_ e_ s_ m_ b_ me_ c_ F
  have hV := @IR_P D s_
  refine g_lsub ([(0, iv (k)), (1, iv (x)), (2, iv (y))]) [0, 1, 2] rfl ?_
  refine g_iload_n F 0 rfl rfl dX2_fits_0 ?_
  refine g_iconst F dX2_fits_1 ?_
  refine g_icmp_ne F (tgt := 7) dX2_fits_2 (by decide) ⟨by omega, by omega⟩ ⟨by decide, by decide⟩ (fun c_1 => ?_) (fun c_1 => ?_)
  · skip
    refine g_iload_n F 1 rfl rfl dX2_fits_7 ?_
    refine g_bipush F dX2_fits_8 (by decide) ?_
    refine g_callRSN F hV (As := [iv (x), iv (20)]) (rest := []) (kX6_isWithin l D cA x 20 (by omega) (by omega)) ⟨va_cnB 2 F.2.2.2.2.1 gX2_fits_X6_isWithin_n46 rfl rfl rfl (F.2.2.2.2.2.1.2 _ (List.mem_of_getElem? (i := 6) rfl)) (F.2.2.2.2.1 _ (List.mem_of_getElem? (i := 3) rfl)) (by decide +kernel) ⟨Nat.le_of_ble_eq_true rfl, Nat.le_of_ble_eq_true rfl⟩, F.2.2.2.2.1 _ (List.mem_of_getElem? (i := 2) rfl), trivial⟩ [] rfl rfl rfl (Nat.le_of_ble_eq_true rfl) ⟨Nat.le_of_ble_eq_true rfl, Nat.le_of_ble_eq_true rfl⟩ dX2_fits_10 (fun v hv => ?_)
    subst hv
    refine g_eq (st' := [iv (if -20 ≤ x ∧ x ≤ 20 then 1 else 0)]) rfl rfl rfl ?_
    refine g_ifb_ne F (tgt := 18) dX2_fits_13 (by decide) (fun c_2 => ?_) (fun c_2 => ?_)
    · skip
      refine g_iload_n F 2 rfl rfl dX2_fits_18 ?_
      refine g_ldc F (-2000000005) (by decide) (List.mem_of_getElem? (i := 1) rfl) dX2_fits_19 ?_
      refine g_icmp_ne F (tgt := 34) dX2_fits_21 (by decide) ⟨by omega, by omega⟩ ⟨by decide, by decide⟩ (fun c_3 => ?_) (fun c_3 => ?_)
      · skip
        refine g_iload_n F 2 rfl rfl dX2_fits_34 ?_
        refine g_iload_n F 1 rfl rfl dX2_fits_35 ?_
        refine g_icmp_lt F (tgt := 45) dX2_fits_36 (by decide) ⟨by omega, by omega⟩ ⟨by omega, by omega⟩ (fun c_4 => ?_) (fun c_4 => ?_)
        · skip
          refine g_iconst F dX2_fits_45 ?_
          exact g_zretR F rfl (nar_01 (Or.inl rfl)) (congrArg (fun z => some (iv z)) (show (0 : Int) = if fitsP k x y then 1 else 0 by first | rfl | (rw [if_neg (by unfold fitsP; omega)]; done) | (rw [if_pos (by unfold fitsP; omega)]; done) | (exfalso; omega))) dX2_fits_46
        · skip
          refine g_iload_n F 2 rfl rfl dX2_fits_39 ?_
          refine g_bipush F dX2_fits_40 (by decide) ?_
          refine g_icmp_le F (tgt := 47) dX2_fits_42 (by decide) ⟨by omega, by omega⟩ ⟨by decide, by decide⟩ (fun c_5 => ?_) (fun c_5 => ?_)
          · skip
            refine g_iload_n F 0 rfl rfl dX2_fits_47 ?_
            refine g_if_eq F (tgt := 59) dX2_fits_48 (by decide) ⟨by omega, by omega⟩ (fun c_6 => ?_) (fun c_6 => ?_)
            · skip
              refine g_iconst F dX2_fits_59 ?_
              refine g_goto F (tgt := 64) dX2_fits_60 (by decide) ?_
              exact g_zretR F rfl (nar_01 (Or.inr rfl)) (congrArg (fun z => some (iv z)) (show (1 : Int) = if fitsP k x y then 1 else 0 by first | rfl | (rw [if_neg (by unfold fitsP; omega)]; done) | (rw [if_pos (by unfold fitsP; omega)]; done) | (exfalso; omega))) dX2_fits_64
            · skip
              refine g_iload_n F 2 rfl rfl dX2_fits_51 ?_
              refine g_iload_n F 1 rfl rfl dX2_fits_52 ?_
              refine g_isub F dX2_fits_53 ?_
              refine g_bipush F dX2_fits_54 (by decide) ?_
              refine g_icmp_gt F (tgt := 63) dX2_fits_56 (by decide) ⟨by omega, by omega⟩ ⟨by decide, by decide⟩ (fun c_7 => ?_) (fun c_7 => ?_)
              · skip
                refine g_iconst F dX2_fits_63 ?_
                exact g_zretR F rfl (nar_01 (Or.inl rfl)) (congrArg (fun z => some (iv z)) (show (0 : Int) = if fitsP k x y then 1 else 0 by first | rfl | (rw [if_neg (by unfold fitsP; omega)]; done) | (rw [if_pos (by unfold fitsP; omega)]; done) | (exfalso; omega))) dX2_fits_64
              · skip
                refine g_iconst F dX2_fits_59 ?_
                refine g_goto F (tgt := 64) dX2_fits_60 (by decide) ?_
                exact g_zretR F rfl (nar_01 (Or.inr rfl)) (congrArg (fun z => some (iv z)) (show (1 : Int) = if fitsP k x y then 1 else 0 by first | rfl | (rw [if_neg (by unfold fitsP; omega)]; done) | (rw [if_pos (by unfold fitsP; omega)]; done) | (exfalso; omega))) dX2_fits_64
          · skip
            refine g_iconst F dX2_fits_45 ?_
            exact g_zretR F rfl (nar_01 (Or.inl rfl)) (congrArg (fun z => some (iv z)) (show (0 : Int) = if fitsP k x y then 1 else 0 by first | rfl | (rw [if_neg (by unfold fitsP; omega)]; done) | (rw [if_pos (by unfold fitsP; omega)]; done) | (exfalso; omega))) dX2_fits_46
      · skip
        refine g_iload_n F 0 rfl rfl dX2_fits_24 ?_
        refine g_if_ne F (tgt := 32) dX2_fits_25 (by decide) ⟨by omega, by omega⟩ (fun c_8 => ?_) (fun c_8 => ?_)
        · skip
          refine g_iconst F dX2_fits_32 ?_
          exact g_zretR F rfl (nar_01 (Or.inl rfl)) (congrArg (fun z => some (iv z)) (show (0 : Int) = if fitsP k x y then 1 else 0 by first | rfl | (rw [if_neg (by unfold fitsP; omega)]; done) | (rw [if_pos (by unfold fitsP; omega)]; done) | (exfalso; omega))) dX2_fits_33
        · skip
          refine g_iconst F dX2_fits_28 ?_
          refine g_goto F (tgt := 33) dX2_fits_29 (by decide) ?_
          exact g_zretR F rfl (nar_01 (Or.inr rfl)) (congrArg (fun z => some (iv z)) (show (1 : Int) = if fitsP k x y then 1 else 0 by first | rfl | (rw [if_neg (by unfold fitsP; omega)]; done) | (rw [if_pos (by unfold fitsP; omega)]; done) | (exfalso; omega))) dX2_fits_33
    · skip
      refine g_iconst F dX2_fits_16 ?_
      exact g_zretR F rfl (nar_01 (Or.inl rfl)) (congrArg (fun z => some (iv z)) (show (0 : Int) = if fitsP k x y then 1 else 0 by first | rfl | (rw [if_neg (by unfold fitsP; omega)]; done) | (rw [if_pos (by unfold fitsP; omega)]; done) | (exfalso; omega))) dX2_fits_17
  · skip
    refine g_iconst F dX2_fits_5 ?_
    exact g_zretR F rfl (nar_01 (Or.inr rfl)) (congrArg (fun z => some (iv z)) (show (1 : Int) = if fitsP k x y then 1 else 0 by first | rfl | (rw [if_neg (by unfold fitsP; omega)]; done) | (rw [if_pos (by unfold fitsP; omega)]; done) | (exfalso; omega))) dX2_fits_6

set_option maxHeartbeats 4000000 in
set_option maxRecDepth 100000 in
theorem kX2_addColumn (l : Launch) (D : va_G) (cA : Nat → ClassId) (a : Nat → Nat) (a_kd : Nat → Int) (a_lo : Nat → Int) (a_hi : Nat → Int) (a_co : Nat → Int) (a_pa : Nat → Int) (a_rk : Nat → Int) (a_nu : Nat → Int) (a_ct : Nat → Int) (a_sa : Nat → Int) (a_nc : Nat) (a_nr : Nat) (k : Int) (x : Int) (y : Int) (hnc : a_nc ≤ 5) (hk : 0 ≤ k ∧ k ≤ 2) (hx : -2147483648 ≤ x ∧ x ≤ 2147483647) (hy : -2147483648 ≤ y ∧ y ≤ 2147483647) : CT l yX2_addColumn wsX2_addColumn ({ frames := 0, cells := 0, slots := 0, locals := 0 }) D cA [.ref (a 0), iv (k), iv (x), iv (y)] (wP cA a (a_kd) (a_lo) (a_hi) (a_co) (a_pa) (a_rk) (a_nu) (a_ct) (a_sa) (((a_nc : Nat) : Int)) (((a_nr : Nat) : Int))) (fun ov ow => ov = some (iv (if a_nc < 5 then (a_nc : Int) else -2000000003)) ∧ ow = if a_nc < 5 then wP cA a (va_up a_kd a_nc k) (va_up a_lo a_nc (if k = 2 then 0 else x)) (va_up a_hi a_nc (if k = 2 then 1 else y)) a_co (va_up a_pa a_nc (-2000000005)) a_rk a_nu a_ct a_sa ((a_nc + 1 : Nat) : Int) (a_nr : Int) else wP cA a a_kd a_lo a_hi a_co a_pa a_rk a_nu a_ct a_sa (a_nc : Int) (a_nr : Int)) 0 0 := by
  refine CT.mk (cc := cX2_addColumn) (maxL := 5) (ret := (some .int)) (by decide +kernel) rfl (Nat.le_of_ble_eq_true rfl) ?_
  intro p_ e_ s_ m_ b_ me_ c_ A F hnm hA
  have hV := @IM_P D s_ A
  have iX2 : ∀ w ∈ u_ws RX2 TX2 11, w ∈ wsX2_addColumn := by decide +kernel
  refine g_lsub ([(0, .ref (a 0)), (1, iv (k)), (2, iv (x)), (3, iv (y))]) [0, 1, 2, 3] rfl ?_
  refine g_aload_n F 0 rfl rfl dX2_addColumn_0 ?_
  refine g_get F hV iX2 0 rfl rfl 9 (by decide) (List.mem_of_getElem? (i := 1) rfl) rfl dX2_addColumn_1 ?_
  refine g_istore F ([(4, iv (((a_nc : Nat) : Int))), (0, .ref (a 0)), (1, iv (k)), (2, iv (x)), (3, iv (y))]) rfl (by decide) dX2_addColumn_4 ?_
  refine g_iload F 0 rfl dX2_addColumn_6 ?_
  refine g_if_lt F (tgt := 17) dX2_addColumn_8 (by decide) ⟨by omega, by omega⟩ (fun c_1 => ?_) (fun c_1 => ?_)
  · skip
    exact absurd c_1 (by omega)
  · skip
    refine g_iload F 0 rfl dX2_addColumn_11 ?_
    refine g_iconst F dX2_addColumn_13 ?_
    refine g_icmp_lt F (tgt := 20) dX2_addColumn_14 (by decide) ⟨by omega, by omega⟩ ⟨by decide, by decide⟩ (fun c_2 => ?_) (fun c_2 => ?_)
    · skip
      refine g_aload_n F 1 rfl rfl dX2_addColumn_20 ?_
      refine g_get F hV iX2 0 rfl rfl 0 (by decide) (List.mem_of_getElem? (i := 3) rfl) rfl dX2_addColumn_21 ?_
      refine g_iload F 0 rfl dX2_addColumn_24 ?_
      refine g_iload_n F 2 rfl rfl dX2_addColumn_26 ?_
      refine g_iast F 1 rfl (a_nc) (by omega) (by omega) (by decide) (wP cA a (va_up a_kd a_nc k) (a_lo) (a_hi) (a_co) (a_pa) (a_rk) (a_nu) (a_ct) (a_sa) (((a_nc : Nat) : Int)) (((a_nr : Nat) : Int))) rfl dX2_addColumn_27 ?_
      refine g_aload_n F 1 rfl rfl dX2_addColumn_28 ?_
      refine g_get F hV iX2 0 rfl rfl 1 (by decide) (List.mem_of_getElem? (i := 4) rfl) rfl dX2_addColumn_29 ?_
      refine g_iload F 0 rfl dX2_addColumn_32 ?_
      refine g_iload_n F 2 rfl rfl dX2_addColumn_34 ?_
      refine g_iconst F dX2_addColumn_35 ?_
      refine g_icmp_ne F (tgt := 43) dX2_addColumn_36 (by decide) ⟨by omega, by omega⟩ ⟨by decide, by decide⟩ (fun c_3 => ?_) (fun c_3 => ?_)
      · skip
        refine g_iload_n F 3 rfl rfl dX2_addColumn_43 ?_
        refine g_iast F 2 rfl (a_nc) (by omega) (by omega) (by decide) (wP cA a (va_up a_kd a_nc k) (va_up a_lo a_nc x) (a_hi) (a_co) (a_pa) (a_rk) (a_nu) (a_ct) (a_sa) (((a_nc : Nat) : Int)) (((a_nr : Nat) : Int))) rfl dX2_addColumn_44 ?_
        refine g_aload_n F 1 rfl rfl dX2_addColumn_45 ?_
        refine g_get F hV iX2 0 rfl rfl 2 (by decide) (List.mem_of_getElem? (i := 5) rfl) rfl dX2_addColumn_46 ?_
        refine g_iload F 0 rfl dX2_addColumn_49 ?_
        refine g_iload_n F 2 rfl rfl dX2_addColumn_51 ?_
        refine g_iconst F dX2_addColumn_52 ?_
        refine g_icmp_ne F (tgt := 60) dX2_addColumn_53 (by decide) ⟨by omega, by omega⟩ ⟨by decide, by decide⟩ (fun c_4 => ?_) (fun c_4 => ?_)
        · skip
          refine g_iload_n F 4 rfl rfl dX2_addColumn_60 ?_
          refine g_iast F 3 rfl (a_nc) (by omega) (by omega) (by decide) (wP cA a (va_up a_kd a_nc k) (va_up a_lo a_nc x) (va_up a_hi a_nc y) (a_co) (a_pa) (a_rk) (a_nu) (a_ct) (a_sa) (((a_nc : Nat) : Int)) (((a_nr : Nat) : Int))) rfl dX2_addColumn_61 ?_
          refine g_aload_n F 1 rfl rfl dX2_addColumn_62 ?_
          refine g_get F hV iX2 0 rfl rfl 4 (by decide) (List.mem_of_getElem? (i := 6) rfl) rfl dX2_addColumn_63 ?_
          refine g_iload F 0 rfl dX2_addColumn_66 ?_
          refine g_ldc F (-2000000005) (by decide) (List.mem_of_getElem? (i := 7) rfl) dX2_addColumn_68 ?_
          refine g_iast F 5 rfl (a_nc) (by omega) (by omega) (by decide) (wP cA a (va_up a_kd a_nc k) (va_up a_lo a_nc x) (va_up a_hi a_nc y) (a_co) (va_up a_pa a_nc (-2000000005)) (a_rk) (a_nu) (a_ct) (a_sa) (((a_nc : Nat) : Int)) (((a_nr : Nat) : Int))) rfl dX2_addColumn_70 ?_
          refine g_aload_n F 1 rfl rfl dX2_addColumn_71 ?_
          refine g_dup F rfl dX2_addColumn_72 ?_
          refine g_get F hV iX2 0 rfl rfl 9 (by decide) (List.mem_of_getElem? (i := 1) rfl) rfl dX2_addColumn_73 ?_
          refine g_iconst F dX2_addColumn_76 ?_
          refine g_iadd F dX2_addColumn_77 ?_
          refine g_put F iX2 tyX2 tyX2_ok nmX2 0 rfl rfl 9 (by decide) (List.mem_of_getElem? (i := 1) rfl) rfl rfl rfl (Nat.le_of_ble_eq_true rfl) (wP cA a (va_up a_kd a_nc k) (va_up a_lo a_nc x) (va_up a_hi a_nc y) (a_co) (va_up a_pa a_nc (-2000000005)) (a_rk) (a_nu) (a_ct) (a_sa) ((((a_nc : Nat) : Int)) + 1) (((a_nr : Nat) : Int))) rfl dX2_addColumn_78 ?_
          refine g_iload F 0 rfl dX2_addColumn_81 ?_
          exact g_zret F rfl rfl (by decide) (by decide) ⟨congrArg (fun z => some (iv z)) (show (((a_nc : Nat) : Int) : Int) = if a_nc < 5 then (a_nc : Int) else -2000000003 by first | rfl | (rw [if_neg (by omega)]; done) | (rw [if_pos (by omega)]; done) | (exfalso; omega)), by first | (rw [if_neg (show ¬ a_nc < 5 by omega)]; done) | (rw [if_pos (show a_nc < 5 by omega)]; first | (simp only [if_pos (show k = 2 by omega)]; done) | (simp only [if_neg (show ¬ k = 2 by omega)]; done) | (simp only [if_pos (show k = 2 by omega)]; rfl) | (simp only [if_neg (show ¬ k = 2 by omega)]; rfl))⟩ dX2_addColumn_83
        · skip
          exfalso; omega
      · skip
        refine g_iconst F dX2_addColumn_39 ?_
        refine g_goto F (tgt := 44) dX2_addColumn_40 (by decide) ?_
        refine g_iast F 2 rfl (a_nc) (by omega) (by omega) (by decide) (wP cA a (va_up a_kd a_nc k) (va_up a_lo a_nc 0) (a_hi) (a_co) (a_pa) (a_rk) (a_nu) (a_ct) (a_sa) (((a_nc : Nat) : Int)) (((a_nr : Nat) : Int))) rfl dX2_addColumn_44 ?_
        refine g_aload_n F 1 rfl rfl dX2_addColumn_45 ?_
        refine g_get F hV iX2 0 rfl rfl 2 (by decide) (List.mem_of_getElem? (i := 5) rfl) rfl dX2_addColumn_46 ?_
        refine g_iload F 0 rfl dX2_addColumn_49 ?_
        refine g_iload_n F 2 rfl rfl dX2_addColumn_51 ?_
        refine g_iconst F dX2_addColumn_52 ?_
        refine g_icmp_ne F (tgt := 60) dX2_addColumn_53 (by decide) ⟨by omega, by omega⟩ ⟨by decide, by decide⟩ (fun c_5 => ?_) (fun c_5 => ?_)
        · skip
          exfalso; omega
        · skip
          refine g_iconst F dX2_addColumn_56 ?_
          refine g_goto F (tgt := 61) dX2_addColumn_57 (by decide) ?_
          refine g_iast F 3 rfl (a_nc) (by omega) (by omega) (by decide) (wP cA a (va_up a_kd a_nc k) (va_up a_lo a_nc 0) (va_up a_hi a_nc 1) (a_co) (a_pa) (a_rk) (a_nu) (a_ct) (a_sa) (((a_nc : Nat) : Int)) (((a_nr : Nat) : Int))) rfl dX2_addColumn_61 ?_
          refine g_aload_n F 1 rfl rfl dX2_addColumn_62 ?_
          refine g_get F hV iX2 0 rfl rfl 4 (by decide) (List.mem_of_getElem? (i := 6) rfl) rfl dX2_addColumn_63 ?_
          refine g_iload F 0 rfl dX2_addColumn_66 ?_
          refine g_ldc F (-2000000005) (by decide) (List.mem_of_getElem? (i := 7) rfl) dX2_addColumn_68 ?_
          refine g_iast F 5 rfl (a_nc) (by omega) (by omega) (by decide) (wP cA a (va_up a_kd a_nc k) (va_up a_lo a_nc 0) (va_up a_hi a_nc 1) (a_co) (va_up a_pa a_nc (-2000000005)) (a_rk) (a_nu) (a_ct) (a_sa) (((a_nc : Nat) : Int)) (((a_nr : Nat) : Int))) rfl dX2_addColumn_70 ?_
          refine g_aload_n F 1 rfl rfl dX2_addColumn_71 ?_
          refine g_dup F rfl dX2_addColumn_72 ?_
          refine g_get F hV iX2 0 rfl rfl 9 (by decide) (List.mem_of_getElem? (i := 1) rfl) rfl dX2_addColumn_73 ?_
          refine g_iconst F dX2_addColumn_76 ?_
          refine g_iadd F dX2_addColumn_77 ?_
          refine g_put F iX2 tyX2 tyX2_ok nmX2 0 rfl rfl 9 (by decide) (List.mem_of_getElem? (i := 1) rfl) rfl rfl rfl (Nat.le_of_ble_eq_true rfl) (wP cA a (va_up a_kd a_nc k) (va_up a_lo a_nc 0) (va_up a_hi a_nc 1) (a_co) (va_up a_pa a_nc (-2000000005)) (a_rk) (a_nu) (a_ct) (a_sa) ((((a_nc : Nat) : Int)) + 1) (((a_nr : Nat) : Int))) rfl dX2_addColumn_78 ?_
          refine g_iload F 0 rfl dX2_addColumn_81 ?_
          exact g_zret F rfl rfl (by decide) (by decide) ⟨congrArg (fun z => some (iv z)) (show (((a_nc : Nat) : Int) : Int) = if a_nc < 5 then (a_nc : Int) else -2000000003 by first | rfl | (rw [if_neg (by omega)]; done) | (rw [if_pos (by omega)]; done) | (exfalso; omega)), by first | (rw [if_neg (show ¬ a_nc < 5 by omega)]; done) | (rw [if_pos (show a_nc < 5 by omega)]; first | (simp only [if_pos (show k = 2 by omega)]; done) | (simp only [if_neg (show ¬ k = 2 by omega)]; done) | (simp only [if_pos (show k = 2 by omega)]; rfl) | (simp only [if_neg (show ¬ k = 2 by omega)]; rfl))⟩ dX2_addColumn_83
    · skip
      refine g_ldc F (-2000000003) (by decide) (List.mem_of_getElem? (i := 2) rfl) dX2_addColumn_17 ?_
      exact g_zret F rfl rfl (by decide) (by decide) ⟨congrArg (fun z => some (iv z)) (show (-2000000003 : Int) = if a_nc < 5 then (a_nc : Int) else -2000000003 by first | rfl | (rw [if_neg (by omega)]; done) | (rw [if_pos (by omega)]; done) | (exfalso; omega)), by first | (rw [if_neg (show ¬ a_nc < 5 by omega)]; done) | (rw [if_pos (show a_nc < 5 by omega)]; first | (simp only [if_pos (show k = 2 by omega)]; done) | (simp only [if_neg (show ¬ k = 2 by omega)]; done) | (simp only [if_pos (show k = 2 by omega)]; rfl) | (simp only [if_neg (show ¬ k = 2 by omega)]; rfl))⟩ dX2_addColumn_19

set_option maxHeartbeats 4000000 in
set_option maxRecDepth 100000 in
theorem kX2_addRow (l : Launch) (D : va_G) (cA : Nat → ClassId) (a : Nat → Nat) (a_kd : Nat → Int) (a_lo : Nat → Int) (a_hi : Nat → Int) (a_co : Nat → Int) (a_pa : Nat → Int) (a_rk : Nat → Int) (a_nu : Nat → Int) (a_ct : Nat → Int) (a_sa : Nat → Int) (a_nc : Nat) (a_nr : Nat) (k : Int) (x : Int) (hnr : a_nr ≤ 7) : CT l yX2_addRow wsX2_addRow ({ frames := 0, cells := 0, slots := 0, locals := 0 }) D cA [.ref (a 0), iv (k), iv (x)] (wP cA a (a_kd) (a_lo) (a_hi) (a_co) (a_pa) (a_rk) (a_nu) (a_ct) (a_sa) (((a_nc : Nat) : Int)) (((a_nr : Nat) : Int))) (fun ov ow => ov = some (iv (if a_nr < 7 then (a_nr : Int) else -2000000003)) ∧ ow = if a_nr < 7 then wP cA a a_kd a_lo a_hi a_co a_pa (va_up a_rk a_nr k) (va_up a_nu a_nr x) (va_up a_ct a_nr 1) a_sa (a_nc : Int) ((a_nr + 1 : Nat) : Int) else wP cA a a_kd a_lo a_hi a_co a_pa a_rk a_nu a_ct a_sa (a_nc : Int) (a_nr : Int)) 0 0 := by
  refine CT.mk (cc := cX2_addRow) (maxL := 4) (ret := (some .int)) (by decide +kernel) rfl (Nat.le_of_ble_eq_true rfl) ?_
  intro p_ e_ s_ m_ b_ me_ c_ A F hnm hA
  have hV := @IM_P D s_ A
  have iX2 : ∀ w ∈ u_ws RX2 TX2 11, w ∈ wsX2_addRow := by decide +kernel
  refine g_lsub ([(0, .ref (a 0)), (1, iv (k)), (2, iv (x))]) [0, 1, 2] rfl ?_
  refine g_aload_n F 0 rfl rfl dX2_addRow_0 ?_
  refine g_get F hV iX2 0 rfl rfl 10 (by decide) (List.mem_of_getElem? (i := 1) rfl) rfl dX2_addRow_1 ?_
  refine g_istore_n F ([(3, iv (((a_nr : Nat) : Int))), (0, .ref (a 0)), (1, iv (k)), (2, iv (x))]) rfl rfl (by decide) dX2_addRow_4 ?_
  refine g_iload_n F 0 rfl rfl dX2_addRow_5 ?_
  refine g_if_lt F (tgt := 15) dX2_addRow_6 (by decide) ⟨by omega, by omega⟩ (fun c_1 => ?_) (fun c_1 => ?_)
  · skip
    refine g_ldc F (-2000000003) (by decide) (List.mem_of_getElem? (i := 2) rfl) dX2_addRow_15 ?_
    exact g_zret F rfl rfl (by decide) (by decide) ⟨congrArg (fun z => some (iv z)) (show (-2000000003 : Int) = if a_nr < 7 then (a_nr : Int) else -2000000003 by first | rfl | (rw [if_neg (by omega)]; done) | (rw [if_pos (by omega)]; done) | (exfalso; omega)), by first | (rw [if_neg (show ¬ a_nr < 7 by omega)]; done) | (rw [if_pos (show a_nr < 7 by omega)]; done) | (rw [if_pos (show a_nr < 7 by omega)]; rfl)⟩ dX2_addRow_17
  · skip
    refine g_iload_n F 0 rfl rfl dX2_addRow_9 ?_
    refine g_bipush F dX2_addRow_10 (by decide) ?_
    refine g_icmp_lt F (tgt := 18) dX2_addRow_12 (by decide) ⟨by omega, by omega⟩ ⟨by decide, by decide⟩ (fun c_2 => ?_) (fun c_2 => ?_)
    · skip
      refine g_aload_n F 1 rfl rfl dX2_addRow_18 ?_
      refine g_get F hV iX2 0 rfl rfl 5 (by decide) (List.mem_of_getElem? (i := 3) rfl) rfl dX2_addRow_19 ?_
      refine g_iload_n F 0 rfl rfl dX2_addRow_22 ?_
      refine g_iload_n F 2 rfl rfl dX2_addRow_23 ?_
      refine g_iast F 6 rfl (a_nr) (by omega) (by omega) (by decide) (wP cA a (a_kd) (a_lo) (a_hi) (a_co) (a_pa) (va_up a_rk a_nr k) (a_nu) (a_ct) (a_sa) (((a_nc : Nat) : Int)) (((a_nr : Nat) : Int))) rfl dX2_addRow_24 ?_
      refine g_aload_n F 1 rfl rfl dX2_addRow_25 ?_
      refine g_get F hV iX2 0 rfl rfl 6 (by decide) (List.mem_of_getElem? (i := 4) rfl) rfl dX2_addRow_26 ?_
      refine g_iload_n F 0 rfl rfl dX2_addRow_29 ?_
      refine g_iload_n F 3 rfl rfl dX2_addRow_30 ?_
      refine g_iast F 7 rfl (a_nr) (by omega) (by omega) (by decide) (wP cA a (a_kd) (a_lo) (a_hi) (a_co) (a_pa) (va_up a_rk a_nr k) (va_up a_nu a_nr x) (a_ct) (a_sa) (((a_nc : Nat) : Int)) (((a_nr : Nat) : Int))) rfl dX2_addRow_31 ?_
      refine g_aload_n F 1 rfl rfl dX2_addRow_32 ?_
      refine g_get F hV iX2 0 rfl rfl 7 (by decide) (List.mem_of_getElem? (i := 5) rfl) rfl dX2_addRow_33 ?_
      refine g_iload_n F 0 rfl rfl dX2_addRow_36 ?_
      refine g_iconst F dX2_addRow_37 ?_
      refine g_iast F 8 rfl (a_nr) (by omega) (by omega) (by decide) (wP cA a (a_kd) (a_lo) (a_hi) (a_co) (a_pa) (va_up a_rk a_nr k) (va_up a_nu a_nr x) (va_up a_ct a_nr 1) (a_sa) (((a_nc : Nat) : Int)) (((a_nr : Nat) : Int))) rfl dX2_addRow_38 ?_
      refine g_aload_n F 1 rfl rfl dX2_addRow_39 ?_
      refine g_dup F rfl dX2_addRow_40 ?_
      refine g_get F hV iX2 0 rfl rfl 10 (by decide) (List.mem_of_getElem? (i := 1) rfl) rfl dX2_addRow_41 ?_
      refine g_iconst F dX2_addRow_44 ?_
      refine g_iadd F dX2_addRow_45 ?_
      refine g_put F iX2 tyX2 tyX2_ok nmX2 0 rfl rfl 10 (by decide) (List.mem_of_getElem? (i := 1) rfl) rfl rfl rfl (Nat.le_of_ble_eq_true rfl) (wP cA a (a_kd) (a_lo) (a_hi) (a_co) (a_pa) (va_up a_rk a_nr k) (va_up a_nu a_nr x) (va_up a_ct a_nr 1) (a_sa) (((a_nc : Nat) : Int)) ((((a_nr : Nat) : Int)) + 1)) rfl dX2_addRow_46 ?_
      refine g_iload_n F 0 rfl rfl dX2_addRow_49 ?_
      exact g_zret F rfl rfl (by decide) (by decide) ⟨congrArg (fun z => some (iv z)) (show (((a_nr : Nat) : Int) : Int) = if a_nr < 7 then (a_nr : Int) else -2000000003 by first | rfl | (rw [if_neg (by omega)]; done) | (rw [if_pos (by omega)]; done) | (exfalso; omega)), by first | (rw [if_neg (show ¬ a_nr < 7 by omega)]; done) | (rw [if_pos (show a_nr < 7 by omega)]; done) | (rw [if_pos (show a_nr < 7 by omega)]; rfl)⟩ dX2_addRow_50
    · skip
      refine g_ldc F (-2000000003) (by decide) (List.mem_of_getElem? (i := 2) rfl) dX2_addRow_15 ?_
      exact g_zret F rfl rfl (by decide) (by decide) ⟨congrArg (fun z => some (iv z)) (show (-2000000003 : Int) = if a_nr < 7 then (a_nr : Int) else -2000000003 by first | rfl | (rw [if_neg (by omega)]; done) | (rw [if_pos (by omega)]; done) | (exfalso; omega)), by first | (rw [if_neg (show ¬ a_nr < 7 by omega)]; done) | (rw [if_pos (show a_nr < 7 by omega)]; done) | (rw [if_pos (show a_nr < 7 by omega)]; rfl)⟩ dX2_addRow_17

set_option maxHeartbeats 4000000 in
set_option maxRecDepth 100000 in
theorem kX2_divisorIn (l : Launch) (D : va_G) (cA : Nat → ClassId) (a : Nat → Nat) (a_kd : Nat → Int) (a_lo : Nat → Int) (a_hi : Nat → Int) (a_co : Nat → Int) (a_pa : Nat → Int) (a_rk : Nat → Int) (a_nu : Nat → Int) (a_ct : Nat → Int) (a_sa : Nat → Int) (a_nc : Nat) (a_nr : Nat) (r : Nat) (hr : r < 7) (hnc : a_nc ≤ 5) (hsa : ∀ j, -9 ≤ a_sa j ∧ a_sa j ≤ 9) (hkd : ∀ j, 0 ≤ a_kd j ∧ a_kd j ≤ 2) : CR l yX2_divisorIn wsX2_divisorIn ({ frames := 2, cells := 0, slots := 0, locals := 54 }) D cA [.ref (a 0), iv (((r : Nat) : Int))] (wP cA a (a_kd) (a_lo) (a_hi) (a_co) (a_pa) (a_rk) (a_nu) (a_ct) (a_sa) (((a_nc : Nat) : Int)) (((a_nr : Nat) : Int))) (fun ov => ov = some (iv (divZ a_kd a_sa r a_nc))) := by
  refine CR.mk (cc := cX2_divisorIn) (maxL := 6) (ret := (some .int)) (by decide +kernel) rfl (Nat.le_of_ble_eq_true rfl) ?_
  intro p_ e_ s_ m_ b_ me_ c_ F
  have hV := @IR_P D s_
  have iX2 : ∀ w ∈ u_ws RX2 TX2 11, w ∈ wsX2_divisorIn := by decide +kernel
  have hgl := gcdZ_le (f := fun j => a_sa (r * 5 + j)) (fun j => hsa _)
  refine g_lsub ([(0, .ref (a 0)), (1, iv (((r : Nat) : Int)))]) [0, 1] rfl ?_
  refine g_lconst F (z := 0) dX2_divisorIn_0 (by decide) ?_
  refine g_lstore_n F ([(2, jv (0)), (0, .ref (a 0)), (1, iv (((r : Nat) : Int)))]) rfl rfl (by decide) dX2_divisorIn_1 ?_
  refine g_iconst F dX2_divisorIn_2 ?_
  refine g_istore F ([(4, iv (0)), (2, jv (0)), (0, .ref (a 0)), (1, iv (((r : Nat) : Int)))]) rfl (by decide) dX2_divisorIn_3 ?_
  have lp5 : ∀ (n : Nat) (c : Nat) (g : Nat) (hc : c ≤ a_nc) (hg : g = gcdZ (fun j => a_sa (r * 5 + j)) c) (hy : anyZ (fun j => decide (a_sa (r * 5 + j) ≠ 0) && decide (a_kd j < 1)) c = false), a_nc - c < n → GW p_ l e_ (headSpec wsX2_divisorIn ({ frames := 2, cells := 0, slots := 0, locals := 54 })).room s_ m_ ([.ref (a 0), iv (((r : Nat) : Int))]).toArray b_ me_ c_ (MQ b_ (Qr (fun ov => ov = some (iv (divZ a_kd a_sa r a_nc)))) ([.ref (a 0), iv (((r : Nat) : Int))]).toArray s_ 0 0 (fun _ => False)) (IR D s_) 6 0 0 (wP cA a (a_kd) (a_lo) (a_hi) (a_co) (a_pa) (a_rk) (a_nu) (a_ct) (a_sa) (((a_nc : Nat) : Int)) (((a_nr : Nat) : Int))) ([(0, .ref (a 0)), (1, iv (((r : Nat) : Int))), (2, jv (((g : Nat) : Int))), (4, iv (((c : Nat) : Int)))]) [] 5 := by
    intro n; induction n with
    | zero => intro c g; intros; omega
    | succ n ih5 =>
      intro c g hc hg hy hmu5
      have hg9 := hgl c
      refine g_iload F 3 rfl dX2_divisorIn_5 ?_
      refine g_aload_n F 0 rfl rfl dX2_divisorIn_7 ?_
      refine g_get F hV iX2 0 rfl rfl 9 (by decide) (List.mem_of_getElem? (i := 1) rfl) rfl dX2_divisorIn_8 ?_
      refine g_icmp_ge F (tgt := 53) dX2_divisorIn_11 (by decide) ⟨by omega, by omega⟩ ⟨by omega, by omega⟩ (fun c_1 => ?_) (fun c_1 => ?_)
      · skip
        refine g_lload_n F 2 rfl rfl dX2_divisorIn_53 ?_
        refine g_l2i F dX2_divisorIn_54 ?_
        exact g_zretR F rfl rfl (congrArg (fun z => some (iv z)) (show (((g : Nat) : Int) : Int) = divZ a_kd a_sa r a_nc by unfold divZ; rw [show a_nc = c by omega, if_neg (by rw [hy]; decide), hg])) dX2_divisorIn_55
      · skip
        refine g_aload_n F 0 rfl rfl dX2_divisorIn_14 ?_
        refine g_iload_n F 1 rfl rfl dX2_divisorIn_15 ?_
        refine g_iload F 3 rfl dX2_divisorIn_16 ?_
        refine g_callRV F hV (As := [iv (((r : Nat) : Int)), iv (((c : Nat) : Int))]) (rest := []) (kX2_shareOf l D cA a a_kd a_lo a_hi a_co a_pa a_rk a_nu a_ct a_sa a_nc a_nr r c (by omega) (by omega)) (cwV 2 F.2.2.2.2.1 gX2_divisorIn_X2_shareOf rfl rfl rfl (by decide +kernel) ⟨Nat.le_of_ble_eq_true rfl, Nat.le_of_ble_eq_true rfl⟩) rfl rfl (q0 := 0) rfl [0, 1, 2, 3, 4, 5, 6, 7, 8, 9] rfl rfl rfl (Nat.le_of_ble_eq_true rfl) ⟨Nat.le_of_ble_eq_true rfl, Nat.le_of_ble_eq_true rfl⟩ dX2_divisorIn_18 (fun v hv => ?_)
        subst hv
        refine g_eq (st' := [iv (a_sa (r * 5 + c))]) rfl rfl rfl ?_
        have hs := hsa (r * 5 + c)
        refine g_istore F ([(5, iv (a_sa (r * 5 + c))), (0, .ref (a 0)), (1, iv (((r : Nat) : Int))), (2, jv (((g : Nat) : Int))), (4, iv (((c : Nat) : Int)))]) rfl (by decide) dX2_divisorIn_21 ?_
        refine g_iload F 0 rfl dX2_divisorIn_23 ?_
        refine g_if_eq F (tgt := 39) dX2_divisorIn_25 (by decide) ⟨by omega, by omega⟩ (fun c_2 => ?_) (fun c_2 => ?_)
        · skip
          refine g_lload_n F 3 rfl rfl dX2_divisorIn_39 ?_
          refine g_iload F 0 rfl dX2_divisorIn_40 ?_
          refine g_i2l F ⟨by omega, by omega⟩ dX2_divisorIn_42 ?_
          refine g_callRSN F hV (As := [jv (((g : Nat) : Int)), jv (a_sa (r * 5 + c))]) (rest := []) (kX6_commonDivisor l D cA (((g : Nat) : Int)) (a_sa (r * 5 + c)) (by omega) (by omega)) ⟨va_cnB 2 F.2.2.2.2.1 gX2_divisorIn_X6_commonDivisor_n70 rfl rfl rfl (F.2.2.2.2.2.1.2 _ (List.mem_of_getElem? (i := 7) rfl)) (F.2.2.2.2.1 _ (List.mem_of_getElem? (i := 14) rfl)) (by decide +kernel) ⟨Nat.le_of_ble_eq_true rfl, Nat.le_of_ble_eq_true rfl⟩, F.2.2.2.2.1 _ (List.mem_of_getElem? (i := 13) rfl), trivial⟩ [] rfl rfl rfl (Nat.le_of_ble_eq_true rfl) ⟨Nat.le_of_ble_eq_true rfl, Nat.le_of_ble_eq_true rfl⟩ dX2_divisorIn_43 (fun v hv => ?_)
          subst hv
          refine g_eq (st' := [jv (((Int.gcd (((g : Nat) : Int)) (a_sa (r * 5 + c)) : Nat) : Int))]) rfl rfl rfl ?_
          refine g_lstore_n F ([(2, jv (((Int.gcd (((g : Nat) : Int)) (a_sa (r * 5 + c)) : Nat) : Int))), (5, iv (a_sa (r * 5 + c))), (0, .ref (a 0)), (1, iv (((r : Nat) : Int))), (4, iv (((c : Nat) : Int)))]) rfl rfl (by decide) dX2_divisorIn_46 ?_
          refine g_iinc F 4 rfl ([(4, iv ((((c : Nat) : Int)) + 1)), (2, jv (((Int.gcd (((g : Nat) : Int)) (a_sa (r * 5 + c)) : Nat) : Int))), (5, iv (a_sa (r * 5 + c))), (0, .ref (a 0)), (1, iv (((r : Nat) : Int)))]) rfl (by decide) dX2_divisorIn_47 ?_
          refine g_goto F (tgt := 5) dX2_divisorIn_50 (by decide) ?_
          refine g_lsub ([(0, .ref (a 0)), (1, iv (((r : Nat) : Int))), (2, jv (((Int.gcd (((g : Nat) : Int)) (a_sa (r * 5 + c)) : Nat) : Int))), (4, iv ((((c : Nat) : Int)) + 1))]) [3, 4, 1, 0] rfl ?_
          exact ih5 (c + 1) (Int.gcd (((g : Nat) : Int)) (a_sa (r * 5 + c))) (by omega) (by rw [hg]; rfl) (by rw [anyZ_succ, hy, Bool.false_or]; simp only [Bool.and_eq_false_iff, decide_eq_false_iff_not]; omega) (by omega)
        · skip
          refine g_aload_n F 1 rfl rfl dX2_divisorIn_28 ?_
          refine g_iload F 4 rfl dX2_divisorIn_29 ?_
          refine g_callRV F hV (As := [iv (((c : Nat) : Int))]) (rest := []) (kX2_isWhole l D cA a a_kd a_lo a_hi a_co a_pa a_rk a_nu a_ct a_sa a_nc a_nr c (by omega) (hkd)) (cwV 1 F.2.2.2.2.1 gX2_divisorIn_X2_isWhole rfl rfl rfl (by decide +kernel) ⟨Nat.le_of_ble_eq_true rfl, Nat.le_of_ble_eq_true rfl⟩) rfl rfl (q0 := 0) rfl [0, 1, 2, 3, 4, 5, 6, 7, 8, 9] rfl rfl rfl (Nat.le_of_ble_eq_true rfl) ⟨Nat.le_of_ble_eq_true rfl, Nat.le_of_ble_eq_true rfl⟩ dX2_divisorIn_31 (fun v hv => ?_)
          subst hv
          refine g_eq (st' := [iv (if 1 ≤ a_kd c then 1 else 0)]) rfl rfl rfl ?_
          refine g_ifb_ne F (tgt := 39) dX2_divisorIn_34 (by decide) (fun c_3 => ?_) (fun c_3 => ?_)
          · skip
            refine g_lload_n F 3 rfl rfl dX2_divisorIn_39 ?_
            refine g_iload F 0 rfl dX2_divisorIn_40 ?_
            refine g_i2l F ⟨by omega, by omega⟩ dX2_divisorIn_42 ?_
            refine g_callRSN F hV (As := [jv (((g : Nat) : Int)), jv (a_sa (r * 5 + c))]) (rest := []) (kX6_commonDivisor l D cA (((g : Nat) : Int)) (a_sa (r * 5 + c)) (by omega) (by omega)) ⟨va_cnB 2 F.2.2.2.2.1 gX2_divisorIn_X6_commonDivisor_n70 rfl rfl rfl (F.2.2.2.2.2.1.2 _ (List.mem_of_getElem? (i := 7) rfl)) (F.2.2.2.2.1 _ (List.mem_of_getElem? (i := 14) rfl)) (by decide +kernel) ⟨Nat.le_of_ble_eq_true rfl, Nat.le_of_ble_eq_true rfl⟩, F.2.2.2.2.1 _ (List.mem_of_getElem? (i := 13) rfl), trivial⟩ [] rfl rfl rfl (Nat.le_of_ble_eq_true rfl) ⟨Nat.le_of_ble_eq_true rfl, Nat.le_of_ble_eq_true rfl⟩ dX2_divisorIn_43 (fun v hv => ?_)
            subst hv
            refine g_eq (st' := [jv (((Int.gcd (((g : Nat) : Int)) (a_sa (r * 5 + c)) : Nat) : Int))]) rfl rfl rfl ?_
            refine g_lstore_n F ([(2, jv (((Int.gcd (((g : Nat) : Int)) (a_sa (r * 5 + c)) : Nat) : Int))), (5, iv (a_sa (r * 5 + c))), (0, .ref (a 0)), (1, iv (((r : Nat) : Int))), (4, iv (((c : Nat) : Int)))]) rfl rfl (by decide) dX2_divisorIn_46 ?_
            refine g_iinc F 4 rfl ([(4, iv ((((c : Nat) : Int)) + 1)), (2, jv (((Int.gcd (((g : Nat) : Int)) (a_sa (r * 5 + c)) : Nat) : Int))), (5, iv (a_sa (r * 5 + c))), (0, .ref (a 0)), (1, iv (((r : Nat) : Int)))]) rfl (by decide) dX2_divisorIn_47 ?_
            refine g_goto F (tgt := 5) dX2_divisorIn_50 (by decide) ?_
            refine g_lsub ([(0, .ref (a 0)), (1, iv (((r : Nat) : Int))), (2, jv (((Int.gcd (((g : Nat) : Int)) (a_sa (r * 5 + c)) : Nat) : Int))), (4, iv ((((c : Nat) : Int)) + 1))]) [3, 4, 1, 0] rfl ?_
            exact ih5 (c + 1) (Int.gcd (((g : Nat) : Int)) (a_sa (r * 5 + c))) (by omega) (by rw [hg]; rfl) (by rw [anyZ_succ, hy, Bool.false_or]; simp only [Bool.and_eq_false_iff, decide_eq_false_iff_not]; omega) (by omega)
          · skip
            refine g_iconst F dX2_divisorIn_37 ?_
            exact g_zretR F rfl rfl (congrArg (fun z => some (iv z)) (show (0 : Int) = divZ a_kd a_sa r a_nc by unfold divZ; rw [if_pos (anyZ_of (c := c) (by simp only [Bool.and_eq_true, decide_eq_true_eq]; omega) (by omega))])) dX2_divisorIn_38
  refine g_lsub ([(0, .ref (a 0)), (1, iv (((r : Nat) : Int))), (2, jv (0)), (4, iv (0))]) [2, 3, 1, 0] rfl ?_
  exact lp5 (_ + 1) 0 0 (by omega) (rfl) (rfl) (Nat.lt_succ_self _)
