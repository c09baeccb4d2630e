abbrev inBP (lo hi pl : Nat → Int) (pb : Int) (c : Nat) : Prop := (hi c = -2000000005 ∨ pl c ≤ hi c * pb) ∧ lo c * pb ≤ pl c
abbrev wellP (kd lo hi pa pl : Nat → Int) (pb : Int) (nc c : Nat) : Prop := inBP lo hi pl pb c ∧ (kd c < 1 ∨ Int.tmod (pl c) pb = 0) ∧ (kd c ≠ 2 ∨ pl c ≠ 0 ∨ ¬ (0 ≤ pa c ∧ pa c < (nc : Int)) ∨ pl (pa c).toNat = 0)
theorem tmod_64 {a b : Int} (ha : I64 a) (h : -9223372036854775808 < a) : I64 (Int.tmod a b) := by
  have e : (Int.tmod a b).natAbs ≤ a.natAbs := by rw [Int.natAbs_tmod]; exact Nat.mod_le _ _
  obtain ⟨h1, h2⟩ := ha
  constructor <;> omega
theorem sum_abs {f : Nat → Int} {B : Nat} (h : ∀ j, (f j).natAbs ≤ B) : ∀ n, (sumZ f n).natAbs ≤ n * B
  | 0 => by simp [sumZ]
  | n + 1 => by
    have h1 := sum_abs h n
    have h2 := h n
    have h3 := Int.natAbs_add_le (sumZ f n) (f n)
    show (sumZ f n + f n).natAbs ≤ _
    rw [Nat.succ_mul]
    omega
theorem sum_in {f : Nat → Int} {n : Nat} (hn : n ≤ 5) (h : ∀ j, (f j).natAbs ≤ 1800000000000) : -9223372036854775808 ≤ sumZ f n ∧ sumZ f n ≤ 9223372036854775807 := by
  have h1 := sum_abs h n
  have h2 : n * 1800000000000 ≤ 5 * 1800000000000 := Nat.mul_le_mul_right _ hn
  omega
abbrev sumP (sa pl : Nat → Int) (nc r : Nat) : Int := sumZ (fun j => sa (r * 5 + j) * pl j) nc
def brkB (rk nu ct sa pl : Nat → Int) (pb : Int) (nc : Nat) (r : Nat) : Bool := decide (ct r = 1 ∧ ¬ keptP (rk r) (sumP sa pl nc r) (nu r * pb))
def unwB (kd lo hi pa pl : Nat → Int) (pb : Int) (nc : Nat) (c : Nat) : Bool := decide (¬ wellP kd lo hi pa pl pb nc c)
def outB (lo hi pl : Nat → Int) (pb : Int) (c : Nat) : Bool := decide (¬ inBP lo hi pl pb c)
def fwZ (w r : Int) : Int := if 0 ≤ w then 1 + w else if r < 0 then 0 else 100 + r
set_option maxHeartbeats 4000000 in
set_option maxRecDepth 100000 in
theorem kX5_copy (l : Launch) (D : va_G) (cA : Nat → ClassId) (t : Nat → Nat) (t_ce : Nat → Int) (t_ti : Nat → Int) (t_lo : Nat → Int) (t_hi : Nat → Int) (t_gl : Nat → Int) (t_sh : Nat → Int) (t_nc : Nat) (t_nl : Nat) (t_bel : Int) (t_far : Int) (u : Nat → Nat) (u_ce : Nat → Int) (u_ti : Nat → Int) (u_lo : Nat → Int) (u_hi : Nat → Int) (u_gl : Nat → Int) (u_sh : Nat → Int) (u_nc : Nat) (u_nl : Nat) (u_bel : Int) (u_far : Int) (hsh : ∀ j, 0 ≤ u_sh j ∧ u_sh j ≤ 1) : CT l yX5_copy wsX5_copy ({ frames := 1, cells := 0, slots := 0, locals := 40 }) D cA [.ref (t 0), .ref (u 0)] (wT cA t (t_ce) (t_ti) (t_lo) (t_hi) (t_gl) (t_sh) (((t_nc : Nat) : Int)) (((t_nl : Nat) : Int)) (t_bel) (t_far) ++ wT cA u (u_ce) (u_ti) (u_lo) (u_hi) (u_gl) (u_sh) (((u_nc : Nat) : Int)) (((u_nl : Nat) : Int)) (u_bel) (u_far)) (fun ov ow => ov = none ∧ ow = wTS cA t u_nc (u_ce, u_ti, u_lo, u_hi, u_gl, u_sh, u_nl, u_bel, u_far) ++ wTS cA u u_nc (u_ce, u_ti, u_lo, u_hi, u_gl, u_sh, u_nl, u_bel, u_far)) 0 0 := by
  refine CT.mk (cc := cX5_copy) (maxL := 2) (ret := none) (by decide +kernel) rfl (Nat.le_of_ble_eq_true rfl) ?_
  intro p_ e_ s_ m_ b_ me_ c_ A F hnm hA
  have hV := @IM_P D s_ A
  have iX5 : ∀ w ∈ u_ws RX5 TX5 10, w ∈ wsX5_copy := by decide +kernel
  refine g_lsub ([(0, .ref (t 0)), (1, .ref (u 0))]) [0, 1] rfl ?_
  refine g_aload_n F 1 rfl rfl dX5_copy_0 ?_
  refine g_get F hV iX5 7 rfl rfl 0 (by decide) (List.mem_of_getElem? (i := 1) rfl) rfl dX5_copy_1 ?_
  refine g_iconst F dX5_copy_4 ?_
  refine g_aload_n F 0 rfl rfl dX5_copy_5 ?_
  refine g_get F hV iX5 0 rfl rfl 0 (by decide) (List.mem_of_getElem? (i := 1) rfl) rfl dX5_copy_6 ?_
  refine g_iconst F dX5_copy_9 ?_
  refine g_bipush F dX5_copy_10 (by decide) ?_
  refine g_cpyJ F 8 1 rfl rfl (by decide) rfl (wT cA t (u_ce) (t_ti) (t_lo) (t_hi) (t_gl) (t_sh) (((t_nc : Nat) : Int)) (((t_nl : Nat) : Int)) (t_bel) (t_far) ++ wT cA u (u_ce) (u_ti) (u_lo) (u_hi) (u_gl) (u_sh) (((u_nc : Nat) : Int)) (((u_nl : Nat) : Int)) (u_bel) (u_far)) rfl (List.mem_of_getElem? (i := 2) rfl) (List.mem_of_getElem? (i := 3) rfl) (List.mem_of_getElem? (i := 4) rfl) (List.mem_of_getElem? (i := 5) rfl) (Nat.le_of_ble_eq_true rfl) (Nat.le_of_ble_eq_true rfl) dX5_copy_12 ?_
  refine g_aload_n F 1 rfl rfl dX5_copy_15 ?_
  refine g_get F hV iX5 7 rfl rfl 1 (by decide) (List.mem_of_getElem? (i := 6) rfl) rfl dX5_copy_16 ?_
  refine g_iconst F dX5_copy_19 ?_
  refine g_aload_n F 0 rfl rfl dX5_copy_20 ?_
  refine g_get F hV iX5 0 rfl rfl 1 (by decide) (List.mem_of_getElem? (i := 6) rfl) rfl dX5_copy_21 ?_
  refine g_iconst F dX5_copy_24 ?_
  refine g_bipush F dX5_copy_25 (by decide) ?_
  refine g_cpyI F 9 2 rfl rfl (by decide) rfl (wT cA t (u_ce) (u_ti) (t_lo) (t_hi) (t_gl) (t_sh) (((t_nc : Nat) : Int)) (((t_nl : Nat) : Int)) (t_bel) (t_far) ++ wT cA u (u_ce) (u_ti) (u_lo) (u_hi) (u_gl) (u_sh) (((u_nc : Nat) : Int)) (((u_nl : Nat) : Int)) (u_bel) (u_far)) rfl (List.mem_of_getElem? (i := 2) rfl) (List.mem_of_getElem? (i := 3) rfl) (List.mem_of_getElem? (i := 4) rfl) (List.mem_of_getElem? (i := 5) rfl) (Nat.le_of_ble_eq_true rfl) (Nat.le_of_ble_eq_true rfl) dX5_copy_27 ?_
  refine g_aload_n F 1 rfl rfl dX5_copy_30 ?_
  refine g_get F hV iX5 7 rfl rfl 2 (by decide) (List.mem_of_getElem? (i := 7) rfl) rfl dX5_copy_31 ?_
  refine g_iconst F dX5_copy_34 ?_
  refine g_aload_n F 0 rfl rfl dX5_copy_35 ?_
  refine g_get F hV iX5 0 rfl rfl 2 (by decide) (List.mem_of_getElem? (i := 7) rfl) rfl dX5_copy_36 ?_
  refine g_iconst F dX5_copy_39 ?_
  refine g_iconst F dX5_copy_40 ?_
  refine g_cpyI F 10 3 rfl rfl (by decide) rfl (wT cA t (u_ce) (u_ti) (u_lo) (t_hi) (t_gl) (t_sh) (((t_nc : Nat) : Int)) (((t_nl : Nat) : Int)) (t_bel) (t_far) ++ wT cA u (u_ce) (u_ti) (u_lo) (u_hi) (u_gl) (u_sh) (((u_nc : Nat) : Int)) (((u_nl : Nat) : Int)) (u_bel) (u_far)) rfl (List.mem_of_getElem? (i := 2) rfl) (List.mem_of_getElem? (i := 3) rfl) (List.mem_of_getElem? (i := 4) rfl) (List.mem_of_getElem? (i := 5) rfl) (Nat.le_of_ble_eq_true rfl) (Nat.le_of_ble_eq_true rfl) dX5_copy_41 ?_
  refine g_aload_n F 1 rfl rfl dX5_copy_44 ?_
  refine g_get F hV iX5 7 rfl rfl 3 (by decide) (List.mem_of_getElem? (i := 8) rfl) rfl dX5_copy_45 ?_
  refine g_iconst F dX5_copy_48 ?_
  refine g_aload_n F 0 rfl rfl dX5_copy_49 ?_
  refine g_get F hV iX5 0 rfl rfl 3 (by decide) (List.mem_of_getElem? (i := 8) rfl) rfl dX5_copy_50 ?_
  refine g_iconst F dX5_copy_53 ?_
  refine g_iconst F dX5_copy_54 ?_
  refine g_cpyI F 11 4 rfl rfl (by decide) rfl (wT cA t (u_ce) (u_ti) (u_lo) (u_hi) (t_gl) (t_sh) (((t_nc : Nat) : Int)) (((t_nl : Nat) : Int)) (t_bel) (t_far) ++ wT cA u (u_ce) (u_ti) (u_lo) (u_hi) (u_gl) (u_sh) (((u_nc : Nat) : Int)) (((u_nl : Nat) : Int)) (u_bel) (u_far)) rfl (List.mem_of_getElem? (i := 2) rfl) (List.mem_of_getElem? (i := 3) rfl) (List.mem_of_getElem? (i := 4) rfl) (List.mem_of_getElem? (i := 5) rfl) (Nat.le_of_ble_eq_true rfl) (Nat.le_of_ble_eq_true rfl) dX5_copy_55 ?_
  refine g_aload_n F 1 rfl rfl dX5_copy_58 ?_
  refine g_get F hV iX5 7 rfl rfl 4 (by decide) (List.mem_of_getElem? (i := 9) rfl) rfl dX5_copy_59 ?_
  refine g_iconst F dX5_copy_62 ?_
  refine g_aload_n F 0 rfl rfl dX5_copy_63 ?_
  refine g_get F hV iX5 0 rfl rfl 4 (by decide) (List.mem_of_getElem? (i := 9) rfl) rfl dX5_copy_64 ?_
  refine g_iconst F dX5_copy_67 ?_
  refine g_iconst F dX5_copy_68 ?_
  refine g_cpyI F 12 5 rfl rfl (by decide) rfl (wT cA t (u_ce) (u_ti) (u_lo) (u_hi) (u_gl) (t_sh) (((t_nc : Nat) : Int)) (((t_nl : Nat) : Int)) (t_bel) (t_far) ++ wT cA u (u_ce) (u_ti) (u_lo) (u_hi) (u_gl) (u_sh) (((u_nc : Nat) : Int)) (((u_nl : Nat) : Int)) (u_bel) (u_far)) rfl (List.mem_of_getElem? (i := 2) rfl) (List.mem_of_getElem? (i := 3) rfl) (List.mem_of_getElem? (i := 4) rfl) (List.mem_of_getElem? (i := 5) rfl) (Nat.le_of_ble_eq_true rfl) (Nat.le_of_ble_eq_true rfl) dX5_copy_69 ?_
  refine g_aload_n F 1 rfl rfl dX5_copy_72 ?_
  refine g_get F hV iX5 7 rfl rfl 5 (by decide) (List.mem_of_getElem? (i := 10) rfl) rfl dX5_copy_73 ?_
  refine g_iconst F dX5_copy_76 ?_
  refine g_aload_n F 0 rfl rfl dX5_copy_77 ?_
  refine g_get F hV iX5 0 rfl rfl 5 (by decide) (List.mem_of_getElem? (i := 10) rfl) rfl dX5_copy_78 ?_
  refine g_iconst F dX5_copy_81 ?_
  refine g_iconst F dX5_copy_82 ?_
  refine g_cpyZ F 13 6 rfl rfl (hsh) (by decide) rfl (wT cA t (u_ce) (u_ti) (u_lo) (u_hi) (u_gl) (u_sh) (((t_nc : Nat) : Int)) (((t_nl : Nat) : Int)) (t_bel) (t_far) ++ wT cA u (u_ce) (u_ti) (u_lo) (u_hi) (u_gl) (u_sh) (((u_nc : Nat) : Int)) (((u_nl : Nat) : Int)) (u_bel) (u_far)) rfl (List.mem_of_getElem? (i := 2) rfl) (List.mem_of_getElem? (i := 3) rfl) (List.mem_of_getElem? (i := 4) rfl) (List.mem_of_getElem? (i := 5) rfl) (Nat.le_of_ble_eq_true rfl) (Nat.le_of_ble_eq_true rfl) dX5_copy_83 ?_
  refine g_aload_n F 0 rfl rfl dX5_copy_86 ?_
  refine g_aload_n F 1 rfl rfl dX5_copy_87 ?_
  refine g_get F hV iX5 7 rfl rfl 6 (by decide) (List.mem_of_getElem? (i := 11) rfl) rfl dX5_copy_88 ?_
  refine g_put F iX5 tyX5 tyX5_ok nmX5 0 rfl rfl 6 (by decide) (List.mem_of_getElem? (i := 11) rfl) rfl rfl rfl (Nat.le_of_ble_eq_true rfl) (wT cA t (u_ce) (u_ti) (u_lo) (u_hi) (u_gl) (u_sh) (((u_nc : Nat) : Int)) (((t_nl : Nat) : Int)) (t_bel) (t_far) ++ wT cA u (u_ce) (u_ti) (u_lo) (u_hi) (u_gl) (u_sh) (((u_nc : Nat) : Int)) (((u_nl : Nat) : Int)) (u_bel) (u_far)) rfl dX5_copy_91 ?_
  refine g_aload_n F 0 rfl rfl dX5_copy_94 ?_
  refine g_aload_n F 1 rfl rfl dX5_copy_95 ?_
  refine g_get F hV iX5 7 rfl rfl 7 (by decide) (List.mem_of_getElem? (i := 12) rfl) rfl dX5_copy_96 ?_
  refine g_put F iX5 tyX5 tyX5_ok nmX5 0 rfl rfl 7 (by decide) (List.mem_of_getElem? (i := 12) rfl) rfl rfl rfl (Nat.le_of_ble_eq_true rfl) (wT cA t (u_ce) (u_ti) (u_lo) (u_hi) (u_gl) (u_sh) (((u_nc : Nat) : Int)) (((u_nl : Nat) : Int)) (t_bel) (t_far) ++ wT cA u (u_ce) (u_ti) (u_lo) (u_hi) (u_gl) (u_sh) (((u_nc : Nat) : Int)) (((u_nl : Nat) : Int)) (u_bel) (u_far)) rfl dX5_copy_99 ?_
  refine g_aload_n F 0 rfl rfl dX5_copy_102 ?_
  refine g_aload_n F 1 rfl rfl dX5_copy_103 ?_
  refine g_get F hV iX5 7 rfl rfl 8 (by decide) (List.mem_of_getElem? (i := 13) rfl) rfl dX5_copy_104 ?_
  refine g_put F iX5 tyX5 tyX5_ok nmX5 0 rfl rfl 8 (by decide) (List.mem_of_getElem? (i := 13) rfl) rfl rfl rfl (Nat.le_of_ble_eq_true rfl) (wT cA t (u_ce) (u_ti) (u_lo) (u_hi) (u_gl) (u_sh) (((u_nc : Nat) : Int)) (((u_nl : Nat) : Int)) (u_bel) (t_far) ++ wT cA u (u_ce) (u_ti) (u_lo) (u_hi) (u_gl) (u_sh) (((u_nc : Nat) : Int)) (((u_nl : Nat) : Int)) (u_bel) (u_far)) rfl dX5_copy_107 ?_
  refine g_aload_n F 0 rfl rfl dX5_copy_110 ?_
  refine g_aload_n F 1 rfl rfl dX5_copy_111 ?_
  refine g_get F hV iX5 7 rfl rfl 9 (by decide) (List.mem_of_getElem? (i := 14) rfl) rfl dX5_copy_112 ?_
  refine g_put F iX5 tyX5 tyX5_ok nmX5 0 rfl rfl 9 (by decide) (List.mem_of_getElem? (i := 14) rfl) rfl rfl rfl (Nat.le_of_ble_eq_true rfl) (wT cA t (u_ce) (u_ti) (u_lo) (u_hi) (u_gl) (u_sh) (((u_nc : Nat) : Int)) (((u_nl : Nat) : Int)) (u_bel) (u_far) ++ wT cA u (u_ce) (u_ti) (u_lo) (u_hi) (u_gl) (u_sh) (((u_nc : Nat) : Int)) (((u_nl : Nat) : Int)) (u_bel) (u_far)) rfl dX5_copy_115 ?_
  exact g_vret F rfl (by decide) (by decide) ⟨rfl, rfl⟩ dX5_copy_118

set_option maxHeartbeats 4000000 in
set_option maxRecDepth 100000 in
theorem kX1_isAtLeastOf (l : Launch) (D : va_G) (cA : Nat → ClassId) (h : Nat → Nat) (h_pl : Nat → Int) (h_pr : Nat → Int) (h_pb : Int) (h_qb : Int) (a : Nat → Nat) (a_kd : Nat → Int) (a_lo : Nat → Int) (a_hi : Nat → Int) (a_co : Nat → Int) (a_pa : Nat → Int) (a_rk : Nat → Int) (a_nu : Nat → Int) (a_ct : Nat → Int) (a_sa : Nat → Int) (a_nc : Nat) (a_nr : Nat) (c : Nat) (hc : c < 5) (hpl : ∀ j, -200000000000 ≤ h_pl j ∧ h_pl j ≤ 200000000000) (hpb : 0 < h_pb ∧ h_pb ≤ 8000000) (qlo : ∀ j, -20 ≤ a_lo j ∧ a_lo j ≤ 20) : CR l yX1_isAtLeastOf wsX1_isAtLeastOf ({ frames := 0, cells := 0, slots := 0, locals := 0 }) D cA [.ref (h 0), .ref (a 0), iv (((c : Nat) : Int))] (wH cA h (h_pl) (h_pr) (h_pb) (h_qb) ++ wP cA a (a_kd) (a_lo) (a_hi) (a_co) (a_pa) (a_rk) (a_nu) (a_ct) (a_sa) (((a_nc : Nat) : Int)) (((a_nr : Nat) : Int))) (fun ov => ov = some (iv (if h_pl c = a_lo c * h_pb then 1 else 0))) := by
  refine CR.mk (cc := cX1_isAtLeastOf) (maxL := 3) (ret := (some .boolean)) (by decide +kernel) rfl (Nat.le_of_ble_eq_true rfl) ?_
  intro p_ e_ s_ m_ b_ me_ c_ F
  have hV := @IR_P D s_
  have iX1 : ∀ w ∈ u_ws RX1 TX1 4, w ∈ wsX1_isAtLeastOf := by decide +kernel
  have iX2 : ∀ w ∈ u_ws RX2 TX2 11, w ∈ wsX1_isAtLeastOf := by decide +kernel
  refine g_lsub ([(0, .ref (h 0)), (1, .ref (a 0)), (2, iv (((c : Nat) : Int)))]) [0, 1, 2] rfl ?_
  refine g_aload_n F 0 rfl rfl dX1_isAtLeastOf_0 ?_
  refine g_get F hV iX1 0 rfl rfl 0 (by decide) (List.mem_of_getElem? (i := 1) rfl) rfl dX1_isAtLeastOf_1 ?_
  refine g_iload_n F 2 rfl rfl dX1_isAtLeastOf_4 ?_
  have r_1 := hpl (c)
  refine g_lald F hV 1 rfl (c) (by omega) (by omega) (by decide) dX1_isAtLeastOf_5 ?_
  refine g_aload_n F 1 rfl rfl dX1_isAtLeastOf_6 ?_
  refine g_get F hV iX2 3 rfl rfl 1 (by decide) (List.mem_of_getElem? (i := 2) rfl) rfl dX1_isAtLeastOf_7 ?_
  refine g_iload_n F 2 rfl rfl dX1_isAtLeastOf_10 ?_
  have r_2 := qlo (c)
  refine g_iald F hV 5 rfl (c) (by omega) (by omega) (by decide) dX1_isAtLeastOf_11 ?_
  refine g_i2l F ⟨by omega, by omega⟩ dX1_isAtLeastOf_12 ?_
  refine g_aload_n F 0 rfl rfl dX1_isAtLeastOf_13 ?_
  refine g_get F hV iX1 0 rfl rfl 2 (by decide) (List.mem_of_getElem? (i := 3) rfl) rfl dX1_isAtLeastOf_14 ?_
  refine g_lmul F dX1_isAtLeastOf_17 ?_
  refine g_lcmp_ne F (tgt := 26) dX1_isAtLeastOf_18 dX1_isAtLeastOf_19 (by decide) ⟨by omega, by omega⟩ (mul_64 (by omega) (by omega)) (fun c_3 => ?_) (fun c_3 => ?_)
  · skip
    refine g_iconst F dX1_isAtLeastOf_26 ?_
    exact g_zretR F rfl (nar_01 (Or.inl rfl)) (congrArg (fun z => some (iv z)) (show (0 : Int) = if h_pl c = a_lo c * h_pb then 1 else 0 by first | rfl | (rw [if_neg (by omega)]; done) | (rw [if_pos (by omega)]; done) | (exfalso; omega))) dX1_isAtLeastOf_27
  · skip
    refine g_iconst F dX1_isAtLeastOf_22 ?_
    refine g_goto F (tgt := 27) dX1_isAtLeastOf_23 (by decide) ?_
    exact g_zretR F rfl (nar_01 (Or.inr rfl)) (congrArg (fun z => some (iv z)) (show (1 : Int) = if h_pl c = a_lo c * h_pb then 1 else 0 by first | rfl | (rw [if_neg (by omega)]; done) | (rw [if_pos (by omega)]; done) | (exfalso; omega))) dX1_isAtLeastOf_27

set_option maxHeartbeats 4000000 in
set_option maxRecDepth 100000 in
theorem kX1_isAtGreatestOf (l : Launch) (D : va_G) (cA : Nat → ClassId) (h : Nat → Nat) (h_pl : Nat → Int) (h_pr : Nat → Int) (h_pb : Int) (h_qb : Int) (a : Nat → Nat) (a_kd : Nat → Int) (a_lo : Nat → Int) (a_hi : Nat → Int) (a_co : Nat → Int) (a_pa : Nat → Int) (a_rk : Nat → Int) (a_nu : Nat → Int) (a_ct : Nat → Int) (a_sa : Nat → Int) (a_nc : Nat) (a_nr : Nat) (c : Nat) (hc : c < 5) (hpl : ∀ j, -200000000000 ≤ h_pl j ∧ h_pl j ≤ 200000000000) (hpb : 0 < h_pb ∧ h_pb ≤ 8000000) (qhi : ∀ j, a_hi j = -2000000005 ∨ (-20 ≤ a_hi j ∧ a_hi j ≤ 20)) : CR l yX1_isAtGreatestOf wsX1_isAtGreatestOf ({ frames := 0, cells := 0, slots := 0, locals := 0 }) D cA [.ref (h 0), .ref (a 0), iv (((c : Nat) : Int))] (wH cA h (h_pl) (h_pr) (h_pb) (h_qb) ++ wP cA a (a_kd) (a_lo) (a_hi) (a_co) (a_pa) (a_rk) (a_nu) (a_ct) (a_sa) (((a_nc : Nat) : Int)) (((a_nr : Nat) : Int))) (fun ov => ov = some (iv (if ¬ a_hi c = -2000000005 ∧ h_pl c = a_hi c * h_pb then 1 else 0))) := by
  refine CR.mk (cc := cX1_isAtGreatestOf) (maxL := 3) (ret := (some .boolean)) (by decide +kernel) rfl (Nat.le_of_ble_eq_true rfl) ?_
  intro p_ e_ s_ m_ b_ me_ c_ F
  have hV := @IR_P D s_
  have iX1 : ∀ w ∈ u_ws RX1 TX1 4, w ∈ wsX1_isAtGreatestOf := by decide +kernel
  have iX2 : ∀ w ∈ u_ws RX2 TX2 11, w ∈ wsX1_isAtGreatestOf := by decide +kernel
  refine g_lsub ([(0, .ref (h 0)), (1, .ref (a 0)), (2, iv (((c : Nat) : Int)))]) [0, 1, 2] rfl ?_
  refine g_aload_n F 1 rfl rfl dX1_isAtGreatestOf_0 ?_
  refine g_get F hV iX2 3 rfl rfl 2 (by decide) (List.mem_of_getElem? (i := 1) rfl) rfl dX1_isAtGreatestOf_1 ?_
  refine g_iload_n F 2 rfl rfl dX1_isAtGreatestOf_4 ?_
  have r_1 := qhi (c)
  refine g_iald F hV 6 rfl (c) (by omega) (by omega) (by decide) dX1_isAtGreatestOf_5 ?_
  refine g_ldc F (-2000000005) (by decide) (List.mem_of_getElem? (i := 2) rfl) dX1_isAtGreatestOf_6 ?_
  refine g_icmp_eq F (tgt := 37) dX1_isAtGreatestOf_8 (by decide) ⟨by omega, by omega⟩ ⟨by decide, by decide⟩ (fun c_2 => ?_) (fun c_2 => ?_)
  · skip
    refine g_iconst F dX1_isAtGreatestOf_37 ?_
    exact g_zretR F rfl (nar_01 (Or.inl rfl)) (congrArg (fun z => some (iv z)) (show (0 : Int) = if ¬ a_hi c = -2000000005 ∧ h_pl c = a_hi c * h_pb then 1 else 0 by first | rfl | (rw [if_neg (by omega)]; done) | (rw [if_pos (by omega)]; done) | (exfalso; omega))) dX1_isAtGreatestOf_38
  · skip
    refine g_aload_n F 0 rfl rfl dX1_isAtGreatestOf_11 ?_
    refine g_get F hV iX1 0 rfl rfl 0 (by decide) (List.mem_of_getElem? (i := 3) rfl) rfl dX1_isAtGreatestOf_12 ?_
    refine g_iload_n F 2 rfl rfl dX1_isAtGreatestOf_15 ?_
    have r_3 := hpl (c)
    refine g_lald F hV 1 rfl (c) (by omega) (by omega) (by decide) dX1_isAtGreatestOf_16 ?_
    refine g_aload_n F 1 rfl rfl dX1_isAtGreatestOf_17 ?_
    refine g_get F hV iX2 3 rfl rfl 2 (by decide) (List.mem_of_getElem? (i := 1) rfl) rfl dX1_isAtGreatestOf_18 ?_
    refine g_iload_n F 2 rfl rfl dX1_isAtGreatestOf_21 ?_
    have r_4 := qhi (c)
    refine g_iald F hV 6 rfl (c) (by omega) (by omega) (by decide) dX1_isAtGreatestOf_22 ?_
    refine g_i2l F ⟨by omega, by omega⟩ dX1_isAtGreatestOf_23 ?_
    refine g_aload_n F 0 rfl rfl dX1_isAtGreatestOf_24 ?_
    refine g_get F hV iX1 0 rfl rfl 2 (by decide) (List.mem_of_getElem? (i := 4) rfl) rfl dX1_isAtGreatestOf_25 ?_
    refine g_lmul F dX1_isAtGreatestOf_28 ?_
    refine g_lcmp_ne F (tgt := 37) dX1_isAtGreatestOf_29 dX1_isAtGreatestOf_30 (by decide) ⟨by omega, by omega⟩ (mul_64 (by omega) (by omega)) (fun c_5 => ?_) (fun c_5 => ?_)
    · skip
      refine g_iconst F dX1_isAtGreatestOf_37 ?_
      exact g_zretR F rfl (nar_01 (Or.inl rfl)) (congrArg (fun z => some (iv z)) (show (0 : Int) = if ¬ a_hi c = -2000000005 ∧ h_pl c = a_hi c * h_pb then 1 else 0 by first | rfl | (rw [if_neg (by omega)]; done) | (rw [if_pos (by omega)]; done) | (exfalso; omega))) dX1_isAtGreatestOf_38
    · skip
      refine g_iconst F dX1_isAtGreatestOf_33 ?_
      refine g_goto F (tgt := 38) dX1_isAtGreatestOf_34 (by decide) ?_
      exact g_zretR F rfl (nar_01 (Or.inr rfl)) (congrArg (fun z => some (iv z)) (show (1 : Int) = if ¬ a_hi c = -2000000005 ∧ h_pl c = a_hi c * h_pb then 1 else 0 by first | rfl | (rw [if_neg (by omega)]; done) | (rw [if_pos (by omega)]; done) | (exfalso; omega))) dX1_isAtGreatestOf_38

set_option maxHeartbeats 4000000 in
set_option maxRecDepth 100000 in
theorem kX1_isInBounds (l : Launch) (D : va_G) (cA : Nat → ClassId) (h : Nat → Nat) (h_pl : Nat → Int) (h_pr : Nat → Int) (h_pb : Int) (h_qb : Int) (a : Nat → Nat) (a_kd : Nat → Int) (a_lo : Nat → Int) (a_hi : Nat → Int) (a_co : Nat → Int) (a_pa : Nat → Int) (a_rk : Nat → Int) (a_nu : Nat → Int) (a_ct : Nat → Int) (a_sa : Nat → Int) (a_nc : Nat) (a_nr : Nat) (c : Nat) (hc : c < 5) (hpl : ∀ j, -200000000000 ≤ h_pl j ∧ h_pl j ≤ 200000000000) (hpb : 0 < h_pb ∧ h_pb ≤ 8000000) (qlo : ∀ j, -20 ≤ a_lo j ∧ a_lo j ≤ 20) (qhi : ∀ j, a_hi j = -2000000005 ∨ (-20 ≤ a_hi j ∧ a_hi j ≤ 20)) : CR l yX1_isInBounds wsX1_isInBounds ({ frames := 0, cells := 0, slots := 0, locals := 0 }) D cA [.ref (h 0), .ref (a 0), iv (((c : Nat) : Int))] (wH cA h (h_pl) (h_pr) (h_pb) (h_qb) ++ wP cA a (a_kd) (a_lo) (a_hi) (a_co) (a_pa) (a_rk) (a_nu) (a_ct) (a_sa) (((a_nc : Nat) : Int)) (((a_nr : Nat) : Int))) (fun ov => ov = some (iv (if inBP a_lo a_hi h_pl h_pb c then 1 else 0))) := by
  refine CR.mk (cc := cX1_isInBounds) (maxL := 4) (ret := (some .boolean)) (by decide +kernel) rfl (Nat.le_of_ble_eq_true rfl) ?_
  intro p_ e_ s_ m_ b_ me_ c_ F
  have hV := @IR_P D s_
  have iX1 : ∀ w ∈ u_ws RX1 TX1 4, w ∈ wsX1_isInBounds := by decide +kernel
  have iX2 : ∀ w ∈ u_ws RX2 TX2 11, w ∈ wsX1_isInBounds := by decide +kernel
  refine g_lsub ([(0, .ref (h 0)), (1, .ref (a 0)), (2, iv (((c : Nat) : Int)))]) [0, 1, 2] rfl ?_
  refine g_aload_n F 1 rfl rfl dX1_isInBounds_0 ?_
  refine g_get F hV iX2 3 rfl rfl 2 (by decide) (List.mem_of_getElem? (i := 1) rfl) rfl dX1_isInBounds_1 ?_
  refine g_iload_n F 2 rfl rfl dX1_isInBounds_4 ?_
  have r_1 := qhi (c)
  refine g_iald F hV 6 rfl (c) (by omega) (by omega) (by decide) dX1_isInBounds_5 ?_
  refine g_ldc F (-2000000005) (by decide) (List.mem_of_getElem? (i := 2) rfl) dX1_isInBounds_6 ?_
  refine g_icmp_eq F (tgt := 37) dX1_isInBounds_8 (by decide) ⟨by omega, by omega⟩ ⟨by decide, by decide⟩ (fun c_2 => ?_) (fun c_2 => ?_)
  · skip
    refine g_iconst F dX1_isInBounds_37 ?_
    refine g_istore_n F ([(3, iv (0)), (0, .ref (h 0)), (1, .ref (a 0)), (2, iv (((c : Nat) : Int)))]) rfl rfl (by decide) dX1_isInBounds_38 ?_
    refine g_iload_n F 0 rfl rfl dX1_isInBounds_39 ?_
    refine g_if_ne F (tgt := 69) dX1_isInBounds_40 (by decide) ⟨by decide, by decide⟩ (fun c_3 => ?_) (fun c_3 => ?_)
    · skip
      exfalso; omega
    · skip
      refine g_aload_n F 1 rfl rfl dX1_isInBounds_43 ?_
      refine g_get F hV iX1 0 rfl rfl 0 (by decide) (List.mem_of_getElem? (i := 3) rfl) rfl dX1_isInBounds_44 ?_
      refine g_iload_n F 3 rfl rfl dX1_isInBounds_47 ?_
      have r_4 := hpl (c)
      refine g_lald F hV 1 rfl (c) (by omega) (by omega) (by decide) dX1_isInBounds_48 ?_
      refine g_aload_n F 2 rfl rfl dX1_isInBounds_49 ?_
      refine g_get F hV iX2 3 rfl rfl 1 (by decide) (List.mem_of_getElem? (i := 5) rfl) rfl dX1_isInBounds_50 ?_
      refine g_iload_n F 3 rfl rfl dX1_isInBounds_53 ?_
      have r_5 := qlo (c)
      refine g_iald F hV 5 rfl (c) (by omega) (by omega) (by decide) dX1_isInBounds_54 ?_
      refine g_i2l F ⟨by omega, by omega⟩ dX1_isInBounds_55 ?_
      refine g_aload_n F 1 rfl rfl dX1_isInBounds_56 ?_
      refine g_get F hV iX1 0 rfl rfl 2 (by decide) (List.mem_of_getElem? (i := 4) rfl) rfl dX1_isInBounds_57 ?_
      refine g_lmul F dX1_isInBounds_60 ?_
      refine g_lcmp_lt F (tgt := 69) dX1_isInBounds_61 dX1_isInBounds_62 (by decide) ⟨by omega, by omega⟩ (mul_64 (by omega) (by omega)) (fun c_6 => ?_) (fun c_6 => ?_)
      · skip
        refine g_iconst F dX1_isInBounds_69 ?_
        exact g_zretR F rfl (nar_01 (Or.inl rfl)) (congrArg (fun z => some (iv z)) (show (0 : Int) = if inBP a_lo a_hi h_pl h_pb c then 1 else 0 by first | (rw [if_neg (by unfold inBP; omega)]; done) | (rw [if_pos (by unfold inBP; omega)]; done))) dX1_isInBounds_70
      · skip
        refine g_iconst F dX1_isInBounds_65 ?_
        refine g_goto F (tgt := 70) dX1_isInBounds_66 (by decide) ?_
        exact g_zretR F rfl (nar_01 (Or.inr rfl)) (congrArg (fun z => some (iv z)) (show (1 : Int) = if inBP a_lo a_hi h_pl h_pb c then 1 else 0 by first | (rw [if_neg (by unfold inBP; omega)]; done) | (rw [if_pos (by unfold inBP; omega)]; done))) dX1_isInBounds_70
  · skip
    refine g_aload_n F 0 rfl rfl dX1_isInBounds_11 ?_
    refine g_get F hV iX1 0 rfl rfl 0 (by decide) (List.mem_of_getElem? (i := 3) rfl) rfl dX1_isInBounds_12 ?_
    refine g_iload_n F 2 rfl rfl dX1_isInBounds_15 ?_
    have r_7 := hpl (c)
    refine g_lald F hV 1 rfl (c) (by omega) (by omega) (by decide) dX1_isInBounds_16 ?_
    refine g_aload_n F 1 rfl rfl dX1_isInBounds_17 ?_
    refine g_get F hV iX2 3 rfl rfl 2 (by decide) (List.mem_of_getElem? (i := 1) rfl) rfl dX1_isInBounds_18 ?_
    refine g_iload_n F 2 rfl rfl dX1_isInBounds_21 ?_
    have r_8 := qhi (c)
    refine g_iald F hV 6 rfl (c) (by omega) (by omega) (by decide) dX1_isInBounds_22 ?_
    refine g_i2l F ⟨by omega, by omega⟩ dX1_isInBounds_23 ?_
    refine g_aload_n F 0 rfl rfl dX1_isInBounds_24 ?_
    refine g_get F hV iX1 0 rfl rfl 2 (by decide) (List.mem_of_getElem? (i := 4) rfl) rfl dX1_isInBounds_25 ?_
    refine g_lmul F dX1_isInBounds_28 ?_
    refine g_lcmp_le F (tgt := 37) dX1_isInBounds_29 dX1_isInBounds_30 (by decide) ⟨by omega, by omega⟩ (mul_64 (by omega) (by omega)) (fun c_9 => ?_) (fun c_9 => ?_)
    · skip
      refine g_iconst F dX1_isInBounds_37 ?_
      refine g_istore_n F ([(3, iv (0)), (0, .ref (h 0)), (1, .ref (a 0)), (2, iv (((c : Nat) : Int)))]) rfl rfl (by decide) dX1_isInBounds_38 ?_
      refine g_iload_n F 0 rfl rfl dX1_isInBounds_39 ?_
      refine g_if_ne F (tgt := 69) dX1_isInBounds_40 (by decide) ⟨by decide, by decide⟩ (fun c_10 => ?_) (fun c_10 => ?_)
      · skip
        exfalso; omega
      · skip
        refine g_aload_n F 1 rfl rfl dX1_isInBounds_43 ?_
        refine g_get F hV iX1 0 rfl rfl 0 (by decide) (List.mem_of_getElem? (i := 3) rfl) rfl dX1_isInBounds_44 ?_
        refine g_iload_n F 3 rfl rfl dX1_isInBounds_47 ?_
        have r_11 := hpl (c)
        refine g_lald F hV 1 rfl (c) (by omega) (by omega) (by decide) dX1_isInBounds_48 ?_
        refine g_aload_n F 2 rfl rfl dX1_isInBounds_49 ?_
        refine g_get F hV iX2 3 rfl rfl 1 (by decide) (List.mem_of_getElem? (i := 5) rfl) rfl dX1_isInBounds_50 ?_
        refine g_iload_n F 3 rfl rfl dX1_isInBounds_53 ?_
        have r_12 := qlo (c)
        refine g_iald F hV 5 rfl (c) (by omega) (by omega) (by decide) dX1_isInBounds_54 ?_
        refine g_i2l F ⟨by omega, by omega⟩ dX1_isInBounds_55 ?_
        refine g_aload_n F 1 rfl rfl dX1_isInBounds_56 ?_
        refine g_get F hV iX1 0 rfl rfl 2 (by decide) (List.mem_of_getElem? (i := 4) rfl) rfl dX1_isInBounds_57 ?_
        refine g_lmul F dX1_isInBounds_60 ?_
        refine g_lcmp_lt F (tgt := 69) dX1_isInBounds_61 dX1_isInBounds_62 (by decide) ⟨by omega, by omega⟩ (mul_64 (by omega) (by omega)) (fun c_13 => ?_) (fun c_13 => ?_)
        · skip
          refine g_iconst F dX1_isInBounds_69 ?_
          exact g_zretR F rfl (nar_01 (Or.inl rfl)) (congrArg (fun z => some (iv z)) (show (0 : Int) = if inBP a_lo a_hi h_pl h_pb c then 1 else 0 by first | (rw [if_neg (by unfold inBP; omega)]; done) | (rw [if_pos (by unfold inBP; omega)]; done))) dX1_isInBounds_70
        · skip
          refine g_iconst F dX1_isInBounds_65 ?_
          refine g_goto F (tgt := 70) dX1_isInBounds_66 (by decide) ?_
          exact g_zretR F rfl (nar_01 (Or.inr rfl)) (congrArg (fun z => some (iv z)) (show (1 : Int) = if inBP a_lo a_hi h_pl h_pb c then 1 else 0 by first | (rw [if_neg (by unfold inBP; omega)]; done) | (rw [if_pos (by unfold inBP; omega)]; done))) dX1_isInBounds_70
    · skip
      refine g_iconst F dX1_isInBounds_33 ?_
      refine g_goto F (tgt := 38) dX1_isInBounds_34 (by decide) ?_
      refine g_istore_n F ([(3, iv (1)), (0, .ref (h 0)), (1, .ref (a 0)), (2, iv (((c : Nat) : Int)))]) rfl rfl (by decide) dX1_isInBounds_38 ?_
      refine g_iload_n F 0 rfl rfl dX1_isInBounds_39 ?_
      refine g_if_ne F (tgt := 69) dX1_isInBounds_40 (by decide) ⟨by decide, by decide⟩ (fun c_14 => ?_) (fun c_14 => ?_)
      · skip
        refine g_iconst F dX1_isInBounds_69 ?_
        exact g_zretR F rfl (nar_01 (Or.inl rfl)) (congrArg (fun z => some (iv z)) (show (0 : Int) = if inBP a_lo a_hi h_pl h_pb c then 1 else 0 by first | (rw [if_neg (by unfold inBP; omega)]; done) | (rw [if_pos (by unfold inBP; omega)]; done))) dX1_isInBounds_70
      · skip
        exfalso; omega

set_option maxHeartbeats 4000000 in
set_option maxRecDepth 100000 in
theorem kX1_isWell (l : Launch) (D : va_G) (cA : Nat → ClassId) (h : Nat → Nat) (h_pl : Nat → Int) (h_pr : Nat → Int) (h_pb : Int) (h_qb : Int) (a : Nat → Nat) (a_kd : Nat → Int) (a_lo : Nat → Int) (a_hi : Nat → Int) (a_co : Nat → Int) (a_pa : Nat → Int) (a_rk : Nat → Int) (a_nu : Nat → Int) (a_ct : Nat → Int) (a_sa : Nat → Int) (a_nc : Nat) (a_nr : Nat) (c : Nat) (hc : c < 5) (qnc : a_nc ≤ 5) (hpl : ∀ j, -200000000000 ≤ h_pl j ∧ h_pl j ≤ 200000000000) (hpb : 0 < h_pb ∧ h_pb ≤ 8000000) (qlo : ∀ j, -20 ≤ a_lo j ∧ a_lo j ≤ 20) (qhi : ∀ j, a_hi j = -2000000005 ∨ (-20 ≤ a_hi j ∧ a_hi j ≤ 20)) (qkd : ∀ j, 0 ≤ a_kd j ∧ a_kd j ≤ 2) (qpa : ∀ j, a_pa j = -2000000005 ∨ (0 ≤ a_pa j ∧ a_pa j < 5)) : CR l yX1_isWell wsX1_isWell ({ frames := 1, cells := 0, slots := 0, locals := 23 }) D cA [.ref (h 0), .ref (a 0), iv (((c : Nat) : Int))] (wH cA h (h_pl) (h_pr) (h_pb) (h_qb) ++ wP cA a (a_kd) (a_lo) (a_hi) (a_co) (a_pa) (a_rk) (a_nu) (a_ct) (a_sa) (((a_nc : Nat) : Int)) (((a_nr : Nat) : Int))) (fun ov => ov = some (iv (if wellP a_kd a_lo a_hi a_pa h_pl h_pb a_nc c then 1 else 0))) := by
  refine CR.mk (cc := cX1_isWell) (maxL := 4) (ret := (some .boolean)) (by decide +kernel) rfl (Nat.le_of_ble_eq_true rfl) ?_
  intro p_ e_ s_ m_ b_ me_ c_ F
  have hV := @IR_P D s_
  have iX1 : ∀ w ∈ u_ws RX1 TX1 4, w ∈ wsX1_isWell := by decide +kernel
  have iX2 : ∀ w ∈ u_ws RX2 TX2 11, w ∈ wsX1_isWell := by decide +kernel
  refine g_lsub ([(0, .ref (h 0)), (1, .ref (a 0)), (2, iv (((c : Nat) : Int)))]) [0, 1, 2] rfl ?_
  refine g_aload_n F 0 rfl rfl dX1_isWell_0 ?_
  refine g_aload_n F 1 rfl rfl dX1_isWell_1 ?_
  refine g_iload_n F 2 rfl rfl dX1_isWell_2 ?_
  refine g_callRV F hV (As := [.ref (a 0), iv (((c : Nat) : Int))]) (rest := []) (kX1_isInBounds l D cA h h_pl h_pr h_pb h_qb a a_kd a_lo a_hi a_co a_pa a_rk a_nu a_ct a_sa a_nc a_nr c (hc) (hpl) (hpb) (qlo) (qhi)) (cwV 2 F.2.2.2.2.1 gX1_isWell_X1_isInBounds rfl rfl rfl (by decide +kernel) ⟨Nat.le_of_ble_eq_true rfl, Nat.le_of_ble_eq_true rfl⟩) rfl rfl (q0 := 0) rfl [0, 1, 2, 3, 4, 5, 6, 7, 8, 9, 10, 11, 12] rfl rfl rfl (Nat.le_of_ble_eq_true rfl) ⟨Nat.le_of_ble_eq_true rfl, Nat.le_of_ble_eq_true rfl⟩ dX1_isWell_3 (fun v hv => ?_)
  subst hv
  refine g_eq (st' := [iv (if inBP a_lo a_hi h_pl h_pb c then 1 else 0)]) rfl rfl rfl ?_
  refine g_ifb_ne F (tgt := 11) dX1_isWell_6 (by decide) (fun c_1 => ?_) (fun c_1 => ?_)
  · skip
    unfold inBP at c_1
    refine g_aload_n F 1 rfl rfl dX1_isWell_11 ?_
    refine g_iload_n F 2 rfl rfl dX1_isWell_12 ?_
    refine g_callRV F hV (As := [iv (((c : Nat) : Int))]) (rest := []) (kX2_isWhole l D cA a a_kd a_lo a_hi a_co a_pa a_rk a_nu a_ct a_sa a_nc a_nr c (hc) (qkd)) (cwV 1 F.2.2.2.2.1 gX1_isWell_X2_isWhole rfl rfl rfl (by decide +kernel) ⟨Nat.le_of_ble_eq_true rfl, Nat.le_of_ble_eq_true rfl⟩) rfl rfl (q0 := 0) rfl [3, 4, 5, 6, 7, 8, 9, 10, 11, 12] rfl rfl rfl (Nat.le_of_ble_eq_true rfl) ⟨Nat.le_of_ble_eq_true rfl, Nat.le_of_ble_eq_true rfl⟩ dX1_isWell_13 (fun v hv => ?_)
    subst hv
    refine g_eq (st' := [iv (if 1 ≤ a_kd c then 1 else 0)]) rfl rfl rfl ?_
    refine g_ifb_eq F (tgt := 46) dX1_isWell_16 (by decide) (fun c_2 => ?_) (fun c_2 => ?_)
    · skip
      refine g_aload_n F 1 rfl rfl dX1_isWell_46 ?_
      refine g_get F hV iX2 3 rfl rfl 4 (by decide) (List.mem_of_getElem? (i := 3) rfl) rfl dX1_isWell_47 ?_
      refine g_iload_n F 2 rfl rfl dX1_isWell_50 ?_
      have r_3 := qpa (c)
      refine g_iald F hV 8 rfl (c) (by omega) (by omega) (by decide) dX1_isWell_51 ?_
      refine g_istore_n F ([(3, iv (a_pa c)), (0, .ref (h 0)), (1, .ref (a 0)), (2, iv (((c : Nat) : Int)))]) rfl rfl (by decide) dX1_isWell_52 ?_
      refine g_aload_n F 2 rfl rfl dX1_isWell_53 ?_
      refine g_iload_n F 3 rfl rfl dX1_isWell_54 ?_
      refine g_callRV F hV (As := [iv (((c : Nat) : Int))]) (rest := []) (kX2_isSwitch l D cA a a_kd a_lo a_hi a_co a_pa a_rk a_nu a_ct a_sa a_nc a_nr c (hc) (qkd)) (cwV 1 F.2.2.2.2.1 gX1_isWell_X2_isSwitch rfl rfl rfl (by decide +kernel) ⟨Nat.le_of_ble_eq_true rfl, Nat.le_of_ble_eq_true rfl⟩) rfl rfl (q0 := 0) rfl [3, 4, 5, 6, 7, 8, 9, 10, 11, 12] rfl rfl rfl (Nat.le_of_ble_eq_true rfl) ⟨Nat.le_of_ble_eq_true rfl, Nat.le_of_ble_eq_true rfl⟩ dX1_isWell_55 (fun v hv => ?_)
      subst hv
      refine g_eq (st' := [iv (if a_kd c = 2 then 1 else 0)]) rfl rfl rfl ?_
      refine g_ifb_eq F (tgt := 91) dX1_isWell_58 (by decide) (fun c_4 => ?_) (fun c_4 => ?_)
      · skip
        refine g_iconst F dX1_isWell_91 ?_
        refine g_goto F (tgt := 96) dX1_isWell_92 (by decide) ?_
        exact g_zretR F rfl (nar_01 (Or.inr rfl)) (congrArg (fun z => some (iv z)) (show (1 : Int) = if wellP a_kd a_lo a_hi a_pa h_pl h_pb a_nc c then 1 else 0 by first | (rw [if_neg (by unfold wellP inBP; omega)]; done) | (rw [if_pos (by unfold wellP inBP; omega)]; done))) dX1_isWell_96
      · skip
        refine g_aload_n F 1 rfl rfl dX1_isWell_61 ?_
        refine g_get F hV iX1 0 rfl rfl 0 (by decide) (List.mem_of_getElem? (i := 2) rfl) rfl dX1_isWell_62 ?_
        refine g_iload_n F 3 rfl rfl dX1_isWell_65 ?_
        have r_5 := hpl (c)
        refine g_lald F hV 1 rfl (c) (by omega) (by omega) (by decide) dX1_isWell_66 ?_
        refine g_lconst F (z := 0) dX1_isWell_67 (by decide) ?_
        refine g_lcmp_ne F (tgt := 91) dX1_isWell_68 dX1_isWell_69 (by decide) ⟨by omega, by omega⟩ ⟨by decide, by decide⟩ (fun c_6 => ?_) (fun c_6 => ?_)
        · skip
          refine g_iconst F dX1_isWell_91 ?_
          refine g_goto F (tgt := 96) dX1_isWell_92 (by decide) ?_
          exact g_zretR F rfl (nar_01 (Or.inr rfl)) (congrArg (fun z => some (iv z)) (show (1 : Int) = if wellP a_kd a_lo a_hi a_pa h_pl h_pb a_nc c then 1 else 0 by first | (rw [if_neg (by unfold wellP inBP; omega)]; done) | (rw [if_pos (by unfold wellP inBP; omega)]; done))) dX1_isWell_96
        · skip
          refine g_aload_n F 2 rfl rfl dX1_isWell_72 ?_
          refine g_iload_n F 0 rfl rfl dX1_isWell_73 ?_
          refine g_callRV F hV (As := [iv (a_pa c)]) (rest := []) (kX2_hasColumn l D cA a a_kd a_lo a_hi a_co a_pa a_rk a_nu a_ct a_sa a_nc a_nr (a_pa c) (by omega) (qnc)) (cwV 1 F.2.2.2.2.1 gX1_isWell_X2_hasColumn rfl rfl rfl (by decide +kernel) ⟨Nat.le_of_ble_eq_true rfl, Nat.le_of_ble_eq_true rfl⟩) rfl rfl (q0 := 0) rfl [3, 4, 5, 6, 7, 8, 9, 10, 11, 12] rfl rfl rfl (Nat.le_of_ble_eq_true rfl) ⟨Nat.le_of_ble_eq_true rfl, Nat.le_of_ble_eq_true rfl⟩ dX1_isWell_74 (fun v hv => ?_)
          subst hv
          refine g_eq (st' := [iv (if 0 ≤ (a_pa c) ∧ (a_pa c) < a_nc then 1 else 0)]) rfl rfl rfl ?_
          refine g_ifb_eq F (tgt := 91) dX1_isWell_77 (by decide) (fun c_7 => ?_) (fun c_7 => ?_)
          · skip
            refine g_iconst F dX1_isWell_91 ?_
            refine g_goto F (tgt := 96) dX1_isWell_92 (by decide) ?_
            exact g_zretR F rfl (nar_01 (Or.inr rfl)) (congrArg (fun z => some (iv z)) (show (1 : Int) = if wellP a_kd a_lo a_hi a_pa h_pl h_pb a_nc c then 1 else 0 by first | (rw [if_neg (by unfold wellP inBP; omega)]; done) | (rw [if_pos (by unfold wellP inBP; omega)]; done))) dX1_isWell_96
          · skip
            refine g_aload_n F 1 rfl rfl dX1_isWell_80 ?_
            refine g_get F hV iX1 0 rfl rfl 0 (by decide) (List.mem_of_getElem? (i := 2) rfl) rfl dX1_isWell_81 ?_
            refine g_iload_n F 0 rfl rfl dX1_isWell_84 ?_
            have hp9 := hpl (a_pa c).toNat
            have r_8 := hpl ((a_pa c).toNat)
            refine g_lald F hV 1 rfl ((a_pa c).toNat) (by omega) (by omega) (by decide) dX1_isWell_85 ?_
            refine g_lconst F (z := 0) dX1_isWell_86 (by decide) ?_
            refine g_lcmp_ne F (tgt := 95) dX1_isWell_87 dX1_isWell_88 (by decide) ⟨by omega, by omega⟩ ⟨by decide, by decide⟩ (fun c_9 => ?_) (fun c_9 => ?_)
            · skip
              refine g_iconst F dX1_isWell_95 ?_
              exact g_zretR F rfl (nar_01 (Or.inl rfl)) (congrArg (fun z => some (iv z)) (show (0 : Int) = if wellP a_kd a_lo a_hi a_pa h_pl h_pb a_nc c then 1 else 0 by first | (rw [if_neg (by unfold wellP inBP; omega)]; done) | (rw [if_pos (by unfold wellP inBP; omega)]; done))) dX1_isWell_96
            · skip
              refine g_iconst F dX1_isWell_91 ?_
              refine g_goto F (tgt := 96) dX1_isWell_92 (by decide) ?_
              exact g_zretR F rfl (nar_01 (Or.inr rfl)) (congrArg (fun z => some (iv z)) (show (1 : Int) = if wellP a_kd a_lo a_hi a_pa h_pl h_pb a_nc c then 1 else 0 by first | (rw [if_neg (by unfold wellP inBP; omega)]; done) | (rw [if_pos (by unfold wellP inBP; omega)]; done))) dX1_isWell_96
    · skip
      refine g_aload_n F 0 rfl rfl dX1_isWell_19 ?_
      refine g_get F hV iX1 0 rfl rfl 2 (by decide) (List.mem_of_getElem? (i := 1) rfl) rfl dX1_isWell_20 ?_
      refine g_lconst F (z := 0) dX1_isWell_23 (by decide) ?_
      refine g_lcmp_eq F (tgt := 46) dX1_isWell_24 dX1_isWell_25 (by decide) ⟨by omega, by omega⟩ ⟨by decide, by decide⟩ (fun c_10 => ?_) (fun c_10 => ?_)
      · skip
        exact absurd c_10 (by omega)
      · skip
        refine g_aload_n F 0 rfl rfl dX1_isWell_28 ?_
        refine g_get F hV iX1 0 rfl rfl 0 (by decide) (List.mem_of_getElem? (i := 2) rfl) rfl dX1_isWell_29 ?_
        refine g_iload_n F 2 rfl rfl dX1_isWell_32 ?_
        have r_11 := hpl (c)
        refine g_lald F hV 1 rfl (c) (by omega) (by omega) (by decide) dX1_isWell_33 ?_
        refine g_aload_n F 0 rfl rfl dX1_isWell_34 ?_
        refine g_get F hV iX1 0 rfl rfl 2 (by decide) (List.mem_of_getElem? (i := 1) rfl) rfl dX1_isWell_35 ?_
        refine g_lrem F ⟨⟨by omega, by omega⟩, by omega⟩ ⟨by omega, by omega⟩ (by omega) dX1_isWell_38 ?_
        refine g_lconst F (z := 0) dX1_isWell_39 (by decide) ?_
        refine g_lcmp_eq F (tgt := 46) dX1_isWell_40 dX1_isWell_41 (by decide) (tmod_64 ⟨by omega, by omega⟩ (by omega)) ⟨by decide, by decide⟩ (fun c_12 => ?_) (fun c_12 => ?_)
        · skip
          refine g_aload_n F 1 rfl rfl dX1_isWell_46 ?_
          refine g_get F hV iX2 3 rfl rfl 4 (by decide) (List.mem_of_getElem? (i := 3) rfl) rfl dX1_isWell_47 ?_
          refine g_iload_n F 2 rfl rfl dX1_isWell_50 ?_
          have r_13 := qpa (c)
          refine g_iald F hV 8 rfl (c) (by omega) (by omega) (by decide) dX1_isWell_51 ?_
          refine g_istore_n F ([(3, iv (a_pa c)), (0, .ref (h 0)), (1, .ref (a 0)), (2, iv (((c : Nat) : Int)))]) rfl rfl (by decide) dX1_isWell_52 ?_
          refine g_aload_n F 2 rfl rfl dX1_isWell_53 ?_
          refine g_iload_n F 3 rfl rfl dX1_isWell_54 ?_
          refine g_callRV F hV (As := [iv (((c : Nat) : Int))]) (rest := []) (kX2_isSwitch l D cA a a_kd a_lo a_hi a_co a_pa a_rk a_nu a_ct a_sa a_nc a_nr c (hc) (qkd)) (cwV 1 F.2.2.2.2.1 gX1_isWell_X2_isSwitch rfl rfl rfl (by decide +kernel) ⟨Nat.le_of_ble_eq_true rfl, Nat.le_of_ble_eq_true rfl⟩) rfl rfl (q0 := 0) rfl [3, 4, 5, 6, 7, 8, 9, 10, 11, 12] rfl rfl rfl (Nat.le_of_ble_eq_true rfl) ⟨Nat.le_of_ble_eq_true rfl, Nat.le_of_ble_eq_true rfl⟩ dX1_isWell_55 (fun v hv => ?_)
          subst hv
          refine g_eq (st' := [iv (if a_kd c = 2 then 1 else 0)]) rfl rfl rfl ?_
          refine g_ifb_eq F (tgt := 91) dX1_isWell_58 (by decide) (fun c_14 => ?_) (fun c_14 => ?_)
          · skip
            refine g_iconst F dX1_isWell_91 ?_
            refine g_goto F (tgt := 96) dX1_isWell_92 (by decide) ?_
            exact g_zretR F rfl (nar_01 (Or.inr rfl)) (congrArg (fun z => some (iv z)) (show (1 : Int) = if wellP a_kd a_lo a_hi a_pa h_pl h_pb a_nc c then 1 else 0 by first | (rw [if_neg (by unfold wellP inBP; omega)]; done) | (rw [if_pos (by unfold wellP inBP; omega)]; done))) dX1_isWell_96
          · skip
            refine g_aload_n F 1 rfl rfl dX1_isWell_61 ?_
            refine g_get F hV iX1 0 rfl rfl 0 (by decide) (List.mem_of_getElem? (i := 2) rfl) rfl dX1_isWell_62 ?_
            refine g_iload_n F 3 rfl rfl dX1_isWell_65 ?_
            have r_15 := hpl (c)
            refine g_lald F hV 1 rfl (c) (by omega) (by omega) (by decide) dX1_isWell_66 ?_
            refine g_lconst F (z := 0) dX1_isWell_67 (by decide) ?_
            refine g_lcmp_ne F (tgt := 91) dX1_isWell_68 dX1_isWell_69 (by decide) ⟨by omega, by omega⟩ ⟨by decide, by decide⟩ (fun c_16 => ?_) (fun c_16 => ?_)
            · skip
              refine g_iconst F dX1_isWell_91 ?_
              refine g_goto F (tgt := 96) dX1_isWell_92 (by decide) ?_
              exact g_zretR F rfl (nar_01 (Or.inr rfl)) (congrArg (fun z => some (iv z)) (show (1 : Int) = if wellP a_kd a_lo a_hi a_pa h_pl h_pb a_nc c then 1 else 0 by first | (rw [if_neg (by unfold wellP inBP; omega)]; done) | (rw [if_pos (by unfold wellP inBP; omega)]; done))) dX1_isWell_96
            · skip
              refine g_aload_n F 2 rfl rfl dX1_isWell_72 ?_
              refine g_iload_n F 0 rfl rfl dX1_isWell_73 ?_
              refine g_callRV F hV (As := [iv (a_pa c)]) (rest := []) (kX2_hasColumn l D cA a a_kd a_lo a_hi a_co a_pa a_rk a_nu a_ct a_sa a_nc a_nr (a_pa c) (by omega) (qnc)) (cwV 1 F.2.2.2.2.1 gX1_isWell_X2_hasColumn rfl rfl rfl (by decide +kernel) ⟨Nat.le_of_ble_eq_true rfl, Nat.le_of_ble_eq_true rfl⟩) rfl rfl (q0 := 0) rfl [3, 4, 5, 6, 7, 8, 9, 10, 11, 12] rfl rfl rfl (Nat.le_of_ble_eq_true rfl) ⟨Nat.le_of_ble_eq_true rfl, Nat.le_of_ble_eq_true rfl⟩ dX1_isWell_74 (fun v hv => ?_)
              subst hv
              refine g_eq (st' := [iv (if 0 ≤ (a_pa c) ∧ (a_pa c) < a_nc then 1 else 0)]) rfl rfl rfl ?_
              refine g_ifb_eq F (tgt := 91) dX1_isWell_77 (by decide) (fun c_17 => ?_) (fun c_17 => ?_)
              · skip
                refine g_iconst F dX1_isWell_91 ?_
                refine g_goto F (tgt := 96) dX1_isWell_92 (by decide) ?_
                exact g_zretR F rfl (nar_01 (Or.inr rfl)) (congrArg (fun z => some (iv z)) (show (1 : Int) = if wellP a_kd a_lo a_hi a_pa h_pl h_pb a_nc c then 1 else 0 by first | (rw [if_neg (by unfold wellP inBP; omega)]; done) | (rw [if_pos (by unfold wellP inBP; omega)]; done))) dX1_isWell_96
              · skip
                refine g_aload_n F 1 rfl rfl dX1_isWell_80 ?_
                refine g_get F hV iX1 0 rfl rfl 0 (by decide) (List.mem_of_getElem? (i := 2) rfl) rfl dX1_isWell_81 ?_
                refine g_iload_n F 0 rfl rfl dX1_isWell_84 ?_
                have hp9 := hpl (a_pa c).toNat
                have r_18 := hpl ((a_pa c).toNat)
                refine g_lald F hV 1 rfl ((a_pa c).toNat) (by omega) (by omega) (by decide) dX1_isWell_85 ?_
                refine g_lconst F (z := 0) dX1_isWell_86 (by decide) ?_
                refine g_lcmp_ne F (tgt := 95) dX1_isWell_87 dX1_isWell_88 (by decide) ⟨by omega, by omega⟩ ⟨by decide, by decide⟩ (fun c_19 => ?_) (fun c_19 => ?_)
                · skip
                  refine g_iconst F dX1_isWell_95 ?_
                  exact g_zretR F rfl (nar_01 (Or.inl rfl)) (congrArg (fun z => some (iv z)) (show (0 : Int) = if wellP a_kd a_lo a_hi a_pa h_pl h_pb a_nc c then 1 else 0 by first | (rw [if_neg (by unfold wellP inBP; omega)]; done) | (rw [if_pos (by unfold wellP inBP; omega)]; done))) dX1_isWell_96
                · skip
                  refine g_iconst F dX1_isWell_91 ?_
                  refine g_goto F (tgt := 96) dX1_isWell_92 (by decide) ?_
                  exact g_zretR F rfl (nar_01 (Or.inr rfl)) (congrArg (fun z => some (iv z)) (show (1 : Int) = if wellP a_kd a_lo a_hi a_pa h_pl h_pb a_nc c then 1 else 0 by first | (rw [if_neg (by unfold wellP inBP; omega)]; done) | (rw [if_pos (by unfold wellP inBP; omega)]; done))) dX1_isWell_96
        · skip
          refine g_iconst F dX1_isWell_44 ?_
          exact g_zretR F rfl (nar_01 (Or.inl rfl)) (congrArg (fun z => some (iv z)) (show (0 : Int) = if wellP a_kd a_lo a_hi a_pa h_pl h_pb a_nc c then 1 else 0 by first | (rw [if_neg (by unfold wellP inBP; omega)]; done) | (rw [if_pos (by unfold wellP inBP; omega)]; done))) dX1_isWell_45
  · skip
    unfold inBP at c_1
    refine g_iconst F dX1_isWell_9 ?_
    exact g_zretR F rfl (nar_01 (Or.inl rfl)) (congrArg (fun z => some (iv z)) (show (0 : Int) = if wellP a_kd a_lo a_hi a_pa h_pl h_pb a_nc c then 1 else 0 by first | (rw [if_neg (by unfold wellP inBP; omega)]; done) | (rw [if_pos (by unfold wellP inBP; omega)]; done))) dX1_isWell_10

set_option maxHeartbeats 4000000 in
set_option maxRecDepth 100000 in
theorem kX1_brokenRow (l : Launch) (D : va_G) (cA : Nat → ClassId) (h : Nat → Nat) (h_pl : Nat → Int) (h_pr : Nat → Int) (h_pb : Int) (h_qb : Int) (a : Nat → Nat) (a_kd : Nat → Int) (a_lo : Nat → Int) (a_hi : Nat → Int) (a_co : Nat → Int) (a_pa : Nat → Int) (a_rk : Nat → Int) (a_nu : Nat → Int) (a_ct : Nat → Int) (a_sa : Nat → Int) (a_nc : Nat) (a_nr : Nat) (qnc : a_nc ≤ 5) (qnr : a_nr ≤ 7) (hpl : ∀ j, -200000000000 ≤ h_pl j ∧ h_pl j ≤ 200000000000) (hpb : 0 < h_pb ∧ h_pb ≤ 8000000) (qsa : ∀ j, -9 ≤ a_sa j ∧ a_sa j ≤ 9) (qnu : ∀ j, -198 ≤ a_nu j ∧ a_nu j ≤ 198) (qrk : ∀ j, 0 ≤ a_rk j ∧ a_rk j ≤ 2) (qct : ∀ j, 0 ≤ a_ct j ∧ a_ct j ≤ 1) : CR l yX1_brokenRow wsX1_brokenRow ({ frames := 3, cells := 0, slots := 0, locals := 72 }) D cA [.ref (h 0), .ref (a 0)] (wH cA h (h_pl) (h_pr) (h_pb) (h_qb) ++ wP cA a (a_kd) (a_lo) (a_hi) (a_co) (a_pa) (a_rk) (a_nu) (a_ct) (a_sa) (((a_nc : Nat) : Int)) (((a_nr : Nat) : Int))) (fun ov => ov = some (iv (firstZ (brkB a_rk a_nu a_ct a_sa h_pl h_pb a_nc) a_nr))) := by
  refine CR.mk (cc := cX1_brokenRow) (maxL := 3) (ret := (some .int)) (by decide +kernel) rfl (Nat.le_of_ble_eq_true rfl) ?_
  intro p_ e_ s_ m_ b_ me_ c_ F
  have hV := @IR_P D s_
  have iX1 : ∀ w ∈ u_ws RX1 TX1 4, w ∈ wsX1_brokenRow := by decide +kernel
  have iX2 : ∀ w ∈ u_ws RX2 TX2 11, w ∈ wsX1_brokenRow := by decide +kernel
  refine g_lsub ([(0, .ref (h 0)), (1, .ref (a 0))]) [0, 1] rfl ?_
  refine g_iconst F dX1_brokenRow_0 ?_
  refine g_istore_n F ([(2, iv (0)), (0, .ref (h 0)), (1, .ref (a 0))]) rfl rfl (by decide) dX1_brokenRow_1 ?_
  have lp2 : ∀ (n : Nat) (r : Nat) (hr : r ≤ a_nr) (hj : ∀ j, j < r → brkB a_rk a_nu a_ct a_sa h_pl h_pb a_nc j = false), a_nr - r < n → GW p_ l e_ (headSpec wsX1_brokenRow ({ frames := 3, cells := 0, slots := 0, locals := 72 })).room s_ m_ ([.ref (h 0), .ref (a 0)]).toArray b_ me_ c_ (MQ b_ (Qr (fun ov => ov = some (iv (firstZ (brkB a_rk a_nu a_ct a_sa h_pl h_pb a_nc) a_nr)))) ([.ref (h 0), .ref (a 0)]).toArray s_ 0 0 (fun _ => False)) (IR D s_) 3 0 0 (wH cA h (h_pl) (h_pr) (h_pb) (h_qb) ++ wP cA a (a_kd) (a_lo) (a_hi) (a_co) (a_pa) (a_rk) (a_nu) (a_ct) (a_sa) (((a_nc : Nat) : Int)) (((a_nr : Nat) : Int))) ([(0, .ref (h 0)), (1, .ref (a 0)), (2, iv (((r : Nat) : Int)))]) [] 2 := by
    intro n; induction n with
    | zero => intro r; intros; omega
    | succ n ih2 =>
      intro r hr hj hmu2
      have hn9 := qnu r
      refine g_iload_n F 2 rfl rfl dX1_brokenRow_2 ?_
      refine g_aload_n F 1 rfl rfl dX1_brokenRow_3 ?_
      refine g_get F hV iX2 3 rfl rfl 10 (by decide) (List.mem_of_getElem? (i := 1) rfl) rfl dX1_brokenRow_4 ?_
      refine g_icmp_ge F (tgt := 44) dX1_brokenRow_7 (by decide) ⟨by omega, by omega⟩ ⟨by omega, by omega⟩ (fun c_1 => ?_) (fun c_1 => ?_)
      · skip
        refine g_iconst F dX1_brokenRow_44 ?_
        exact g_zretR F rfl rfl (congrArg (fun z => some (iv z)) (show (-1 : Int) = firstZ (brkB a_rk a_nu a_ct a_sa h_pl h_pb a_nc) a_nr by exact (firstZ_none (fun j w => hj j (by omega))).symm)) dX1_brokenRow_45
      · skip
        refine g_aload_n F 1 rfl rfl dX1_brokenRow_10 ?_
        refine g_get F hV iX2 3 rfl rfl 7 (by decide) (List.mem_of_getElem? (i := 2) rfl) rfl dX1_brokenRow_11 ?_
        refine g_iload_n F 2 rfl rfl dX1_brokenRow_14 ?_
        have r_2 := qct (r)
        refine g_iald F hV 11 rfl (r) (by omega) (by omega) (by decide) dX1_brokenRow_15 ?_
        refine g_iconst F dX1_brokenRow_16 ?_
        refine g_icmp_ne F (tgt := 38) dX1_brokenRow_17 (by decide) ⟨by omega, by omega⟩ ⟨by decide, by decide⟩ (fun c_3 => ?_) (fun c_3 => ?_)
        · skip
          refine g_iinc F 2 rfl ([(2, iv ((((r : Nat) : Int)) + 1)), (0, .ref (h 0)), (1, .ref (a 0))]) rfl (by decide) dX1_brokenRow_38 ?_
          refine g_goto F (tgt := 2) dX1_brokenRow_41 (by decide) ?_
          refine g_lsub ([(0, .ref (h 0)), (1, .ref (a 0)), (2, iv ((((r : Nat) : Int)) + 1))]) [1, 2, 0] rfl ?_
          exact ih2 (r + 1) (by omega) (fun j w => by rcases (show j < r ∨ j = r by omega) with q | q; exact hj j q; subst q; unfold brkB; simp only [decide_eq_false_iff_not]; rintro ⟨q1, q2⟩; first | omega | exact absurd (by assumption) q2) (by omega)
        · skip
          refine g_aload_n F 1 rfl rfl dX1_brokenRow_20 ?_
          refine g_iload_n F 2 rfl rfl dX1_brokenRow_21 ?_
          refine g_aload_n F 0 rfl rfl dX1_brokenRow_22 ?_
          refine g_get F hV iX1 0 rfl rfl 0 (by decide) (List.mem_of_getElem? (i := 3) rfl) rfl dX1_brokenRow_23 ?_
          refine g_aload_n F 0 rfl rfl dX1_brokenRow_26 ?_
          refine g_get F hV iX1 0 rfl rfl 2 (by decide) (List.mem_of_getElem? (i := 4) rfl) rfl dX1_brokenRow_27 ?_
          refine g_callRV F hV (As := [iv (((r : Nat) : Int)), .ref (h 1), jv (h_pb)]) (rest := []) (kX2_isKept l D cA a a_kd a_lo a_hi a_co a_pa a_rk a_nu a_ct a_sa a_nc a_nr (fun _ => h 1) h_pl r h_pb (by omega) (qnc) (qsa) (qnu) (qrk) (sum_in qnc (fun j => by have h1 := qsa (r * 5 + j); have h2 := hpl j; exact Nat.le_trans (mul_nat (a := 9) (b := 200000000000) (by omega) (by omega)) (by decide))) (mul_in (a := 198) (b := 8000000) (by omega) (by omega) (by decide))) (cwV 3 F.2.2.2.2.1 gX1_brokenRow_X2_isKept rfl rfl rfl (by decide +kernel) ⟨Nat.le_of_ble_eq_true rfl, Nat.le_of_ble_eq_true rfl⟩) rfl rfl (q0 := 0) rfl [3, 4, 5, 6, 7, 8, 9, 10, 11, 12, 1] rfl rfl rfl (Nat.le_of_ble_eq_true rfl) ⟨Nat.le_of_ble_eq_true rfl, Nat.le_of_ble_eq_true rfl⟩ dX1_brokenRow_30 (fun v hv => ?_)
          subst hv
          refine g_eq (st' := [iv (if keptP (a_rk r) (sumZ (fun j => a_sa (r * 5 + j) * h_pl j) a_nc) (a_nu r * h_pb) then 1 else 0)]) rfl rfl rfl ?_
          refine g_ifb_ne F (tgt := 38) dX1_brokenRow_33 (by decide) (fun c_4 => ?_) (fun c_4 => ?_)
          · skip
            refine g_iinc F 2 rfl ([(2, iv ((((r : Nat) : Int)) + 1)), (0, .ref (h 0)), (1, .ref (a 0))]) rfl (by decide) dX1_brokenRow_38 ?_
            refine g_goto F (tgt := 2) dX1_brokenRow_41 (by decide) ?_
            refine g_lsub ([(0, .ref (h 0)), (1, .ref (a 0)), (2, iv ((((r : Nat) : Int)) + 1))]) [1, 2, 0] rfl ?_
            exact ih2 (r + 1) (by omega) (fun j w => by rcases (show j < r ∨ j = r by omega) with q | q; exact hj j q; subst q; unfold brkB; simp only [decide_eq_false_iff_not]; rintro ⟨q1, q2⟩; first | omega | exact absurd (by assumption) q2) (by omega)
          · skip
            refine g_iload_n F 2 rfl rfl dX1_brokenRow_36 ?_
            exact g_zretR F rfl rfl (congrArg (fun z => some (iv z)) (show (((r : Nat) : Int) : Int) = firstZ (brkB a_rk a_nu a_ct a_sa h_pl h_pb a_nc) a_nr by exact (firstZ_at hj (by unfold brkB; simp only [decide_eq_true_eq]; exact ⟨by omega, by assumption⟩) (by omega)).symm)) dX1_brokenRow_37
  refine g_lsub ([(0, .ref (h 0)), (1, .ref (a 0)), (2, iv (0))]) [1, 2, 0] rfl ?_
  exact lp2 (_ + 1) 0 (by omega) (fun j w => absurd w (Nat.not_lt_zero j)) (Nat.lt_succ_self _)

set_option maxHeartbeats 4000000 in
set_option maxRecDepth 100000 in
theorem kX1_firstWrong (l : Launch) (D : va_G) (cA : Nat → ClassId) (h : Nat → Nat) (h_pl : Nat → Int) (h_pr : Nat → Int) (h_pb : Int) (h_qb : Int) (a : Nat → Nat) (a_kd : Nat → Int) (a_lo : Nat → Int) (a_hi : Nat → Int) (a_co : Nat → Int) (a_pa : Nat → Int) (a_rk : Nat → Int) (a_nu : Nat → Int) (a_ct : Nat → Int) (a_sa : Nat → Int) (a_nc : Nat) (a_nr : Nat) (qnc : a_nc ≤ 5) (qnr : a_nr ≤ 7) (hpl : ∀ j, -200000000000 ≤ h_pl j ∧ h_pl j ≤ 200000000000) (hpb : 0 < h_pb ∧ h_pb ≤ 8000000) (qsa : ∀ j, -9 ≤ a_sa j ∧ a_sa j ≤ 9) (qnu : ∀ j, -198 ≤ a_nu j ∧ a_nu j ≤ 198) (qrk : ∀ j, 0 ≤ a_rk j ∧ a_rk j ≤ 2) (qct : ∀ j, 0 ≤ a_ct j ∧ a_ct j ≤ 1) (qlo : ∀ j, -20 ≤ a_lo j ∧ a_lo j ≤ 20) (qhi : ∀ j, a_hi j = -2000000005 ∨ (-20 ≤ a_hi j ∧ a_hi j ≤ 20)) (qkd : ∀ j, 0 ≤ a_kd j ∧ a_kd j ≤ 2) (qpa : ∀ j, a_pa j = -2000000005 ∨ (0 ≤ a_pa j ∧ a_pa j < 5)) : CR l yX1_firstWrong wsX1_firstWrong ({ frames := 4, cells := 0, slots := 0, locals := 94 }) D cA [.ref (h 0), .ref (a 0)] (wH cA h (h_pl) (h_pr) (h_pb) (h_qb) ++ wP cA a (a_kd) (a_lo) (a_hi) (a_co) (a_pa) (a_rk) (a_nu) (a_ct) (a_sa) (((a_nc : Nat) : Int)) (((a_nr : Nat) : Int))) (fun ov => ov = some (iv (fwZ (firstZ (unwB a_kd a_lo a_hi a_pa h_pl h_pb a_nc) a_nc) (firstZ (brkB a_rk a_nu a_ct a_sa h_pl h_pb a_nc) a_nr)))) := by
  refine CR.mk (cc := cX1_firstWrong) (maxL := 3) (ret := (some .int)) (by decide +kernel) rfl (Nat.le_of_ble_eq_true rfl) ?_
  intro p_ e_ s_ m_ b_ me_ c_ F
  have hV := @IR_P D s_
  have iX2 : ∀ w ∈ u_ws RX2 TX2 11, w ∈ wsX1_firstWrong := by decide +kernel
  refine g_lsub ([(0, .ref (h 0)), (1, .ref (a 0))]) [0, 1] rfl ?_
  refine g_iconst F dX1_firstWrong_0 ?_
  refine g_istore_n F ([(2, iv (0)), (0, .ref (h 0)), (1, .ref (a 0))]) rfl rfl (by decide) dX1_firstWrong_1 ?_
  have lp2 : ∀ (n : Nat) (c : Nat) (hc : c ≤ a_nc) (hj : ∀ j, j < c → unwB a_kd a_lo a_hi a_pa h_pl h_pb a_nc j = false), a_nc - c < n → GW p_ l e_ (headSpec wsX1_firstWrong ({ frames := 4, cells := 0, slots := 0, locals := 94 })).room s_ m_ ([.ref (h 0), .ref (a 0)]).toArray b_ me_ c_ (MQ b_ (Qr (fun ov => ov = some (iv (fwZ (firstZ (unwB a_kd a_lo a_hi a_pa h_pl h_pb a_nc) a_nc) (firstZ (brkB a_rk a_nu a_ct a_sa h_pl h_pb a_nc) a_nr))))) ([.ref (h 0), .ref (a 0)]).toArray s_ 0 0 (fun _ => False)) (IR D s_) 3 0 0 (wH cA h (h_pl) (h_pr) (h_pb) (h_qb) ++ wP cA a (a_kd) (a_lo) (a_hi) (a_co) (a_pa) (a_rk) (a_nu) (a_ct) (a_sa) (((a_nc : Nat) : Int)) (((a_nr : Nat) : Int))) ([(0, .ref (h 0)), (1, .ref (a 0)), (2, iv (((c : Nat) : Int)))]) [] 2 := by
    intro n; induction n with
    | zero => intro c; intros; omega
    | succ n ih2 =>
      intro c hc hj hmu2
      refine g_iload_n F 2 rfl rfl dX1_firstWrong_2 ?_
      refine g_aload_n F 1 rfl rfl dX1_firstWrong_3 ?_
      refine g_get F hV iX2 3 rfl rfl 9 (by decide) (List.mem_of_getElem? (i := 1) rfl) rfl dX1_firstWrong_4 ?_
      refine g_icmp_ge F (tgt := 29) dX1_firstWrong_7 (by decide) ⟨by omega, by omega⟩ ⟨by omega, by omega⟩ (fun c_1 => ?_) (fun c_1 => ?_)
      · skip
        refine g_aload_n F 0 rfl rfl dX1_firstWrong_29 ?_
        refine g_aload_n F 1 rfl rfl dX1_firstWrong_30 ?_
        refine g_callRV F hV (As := [.ref (a 0)]) (rest := []) (kX1_brokenRow l D cA h h_pl h_pr h_pb h_qb a a_kd a_lo a_hi a_co a_pa a_rk a_nu a_ct a_sa a_nc a_nr (qnc) (qnr) (hpl) (hpb) (qsa) (qnu) (qrk) (qct)) (cwV 1 F.2.2.2.2.1 gX1_firstWrong_X1_brokenRow rfl rfl rfl (by decide +kernel) ⟨Nat.le_of_ble_eq_true rfl, Nat.le_of_ble_eq_true rfl⟩) rfl rfl (q0 := 0) rfl [0, 1, 2, 3, 4, 5, 6, 7, 8, 9, 10, 11, 12] rfl rfl rfl (Nat.le_of_ble_eq_true rfl) ⟨Nat.le_of_ble_eq_true rfl, Nat.le_of_ble_eq_true rfl⟩ dX1_firstWrong_31 (fun v hv => ?_)
        subst hv
        refine g_eq (st' := [iv (firstZ (brkB a_rk a_nu a_ct a_sa h_pl h_pb a_nc) a_nr)]) rfl rfl rfl ?_
        have hrr9 := firstZ_rng (brkB a_rk a_nu a_ct a_sa h_pl h_pb a_nc) a_nr
        refine g_istore_n F ([(2, iv (firstZ (brkB a_rk a_nu a_ct a_sa h_pl h_pb a_nc) a_nr)), (0, .ref (h 0)), (1, .ref (a 0))]) rfl rfl (by decide) dX1_firstWrong_34 ?_
        refine g_iload_n F 0 rfl rfl dX1_firstWrong_35 ?_
        refine g_if_ge F (tgt := 43) dX1_firstWrong_36 (by decide) ⟨by omega, by omega⟩ (fun c_2 => ?_) (fun c_2 => ?_)
        · skip
          refine g_bipush F dX1_firstWrong_43 (by decide) ?_
          refine g_iload_n F 0 rfl rfl dX1_firstWrong_45 ?_
          refine g_iadd F dX1_firstWrong_46 ?_
          exact g_zretR F rfl rfl (congrArg (fun z => some (iv z)) (show (100 + (firstZ (brkB a_rk a_nu a_ct a_sa h_pl h_pb a_nc) a_nr) : Int) = fwZ (firstZ (unwB a_kd a_lo a_hi a_pa h_pl h_pb a_nc) a_nc) (firstZ (brkB a_rk a_nu a_ct a_sa h_pl h_pb a_nc) a_nr) by rw [firstZ_none (f := unwB a_kd a_lo a_hi a_pa h_pl h_pb a_nc) (fun j w => hj j (by omega))]; unfold fwZ; first | (rw [if_neg (by omega), if_pos (by omega)]; done) | (rw [if_neg (by omega), if_neg (by omega)]; done))) dX1_firstWrong_47
        · skip
          refine g_iconst F dX1_firstWrong_39 ?_
          refine g_goto F (tgt := 47) dX1_firstWrong_40 (by decide) ?_
          exact g_zretR F rfl rfl (congrArg (fun z => some (iv z)) (show (0 : Int) = fwZ (firstZ (unwB a_kd a_lo a_hi a_pa h_pl h_pb a_nc) a_nc) (firstZ (brkB a_rk a_nu a_ct a_sa h_pl h_pb a_nc) a_nr) by rw [firstZ_none (f := unwB a_kd a_lo a_hi a_pa h_pl h_pb a_nc) (fun j w => hj j (by omega))]; unfold fwZ; first | (rw [if_neg (by omega), if_pos (by omega)]; done) | (rw [if_neg (by omega), if_neg (by omega)]; done))) dX1_firstWrong_47
      · skip
        refine g_aload_n F 0 rfl rfl dX1_firstWrong_10 ?_
        refine g_aload_n F 1 rfl rfl dX1_firstWrong_11 ?_
        refine g_iload_n F 2 rfl rfl dX1_firstWrong_12 ?_
        refine g_callRV F hV (As := [.ref (a 0), iv (((c : Nat) : Int))]) (rest := []) (kX1_isWell l D cA h h_pl h_pr h_pb h_qb a a_kd a_lo a_hi a_co a_pa a_rk a_nu a_ct a_sa a_nc a_nr c (by omega) (qnc) (hpl) (hpb) (qlo) (qhi) (qkd) (qpa)) (cwV 2 F.2.2.2.2.1 gX1_firstWrong_X1_isWell rfl rfl rfl (by decide +kernel) ⟨Nat.le_of_ble_eq_true rfl, Nat.le_of_ble_eq_true rfl⟩) rfl rfl (q0 := 0) rfl [0, 1, 2, 3, 4, 5, 6, 7, 8, 9, 10, 11, 12] rfl rfl rfl (Nat.le_of_ble_eq_true rfl) ⟨Nat.le_of_ble_eq_true rfl, Nat.le_of_ble_eq_true rfl⟩ dX1_firstWrong_13 (fun v hv => ?_)
        subst hv
        refine g_eq (st' := [iv (if wellP a_kd a_lo a_hi a_pa h_pl h_pb a_nc c then 1 else 0)]) rfl rfl rfl ?_
        refine g_ifb_ne F (tgt := 23) dX1_firstWrong_16 (by decide) (fun c_3 => ?_) (fun c_3 => ?_)
        · skip
          refine g_iinc F 2 rfl ([(2, iv ((((c : Nat) : Int)) + 1)), (0, .ref (h 0)), (1, .ref (a 0))]) rfl (by decide) dX1_firstWrong_23 ?_
          refine g_goto F (tgt := 2) dX1_firstWrong_26 (by decide) ?_
          refine g_lsub ([(0, .ref (h 0)), (1, .ref (a 0)), (2, iv ((((c : Nat) : Int)) + 1))]) [1, 2, 0] rfl ?_
          exact ih2 (c + 1) (by omega) (fun j w => by rcases (show j < c ∨ j = c by omega) with q | q; exact hj j q; subst q; unfold unwB; simp only [decide_eq_false_iff_not]; intro q2; exact absurd (by assumption) q2) (by omega)
        · skip
          refine g_iconst F dX1_firstWrong_19 ?_
          refine g_iload_n F 2 rfl rfl dX1_firstWrong_20 ?_
          refine g_iadd F dX1_firstWrong_21 ?_
          exact g_zretR F rfl rfl (congrArg (fun z => some (iv z)) (show (1 + (((c : Nat) : Int)) : Int) = fwZ (firstZ (unwB a_kd a_lo a_hi a_pa h_pl h_pb a_nc) a_nc) (firstZ (brkB a_rk a_nu a_ct a_sa h_pl h_pb a_nc) a_nr) by rw [firstZ_at (i := c) hj (by unfold unwB; simp only [decide_eq_true_eq]; assumption) (by omega)]; unfold fwZ; rw [if_pos (by omega)])) dX1_firstWrong_22
  refine g_lsub ([(0, .ref (h 0)), (1, .ref (a 0)), (2, iv (0))]) [1, 2, 0] rfl ?_
  exact lp2 (_ + 1) 0 (by omega) (fun j w => absurd w (Nat.not_lt_zero j)) (Nat.lt_succ_self _)
