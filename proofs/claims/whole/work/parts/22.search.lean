abbrev wS (cA : Nat → ClassId) (a : Nat → Nat) (tb : Nat → Option Nat) (sp : Nat → Int) (sg : Nat → Int) : va_W := [(a 0, .inr (4, [.ref (a 1), .ref (a 2), .ref (a 3)])), (a 1, aT cA 51 tb), (a 2, aI cA 51 sp), (a 3, aI cA 51 sg)]
theorem floorZ_spec {a b : Int} (h : 0 < b) : floorZ a b * b ≤ a ∧ a < floorZ a b * b + b := by
  have e := Int.tmod_def a b
  have c : b * a.tdiv b = a.tdiv b * b := Int.mul_comm _ _
  have n : (Int.tmod a b).natAbs < b.natAbs := by rw [Int.natAbs_tmod]; exact Nat.mod_lt _ (by omega)
  unfold floorZ
  split
  · have p : 0 ≤ Int.tmod a b := Int.tmod_nonneg b (by assumption)
    omega
  · have p : 0 ≤ Int.tmod (-a) b := Int.tmod_nonneg b (by omega)
    rw [Int.neg_tmod] at p
    split
    · omega
    · have d : (a.tdiv b - 1) * b = a.tdiv b * b - b := by rw [Int.sub_mul, Int.one_mul]
      rw [d]
      omega
def inStepZ (k n d : Int) : Int := if d ≤ 0 ∨ k = 2 then n else if k = 0 ∨ floorZ n d * d = n then floorZ n d * d else floorZ n d * d + d
abbrev nthP (lo ce : Nat → Int) (bel far : Int) (c : Nat) : Prop := valZ lo ce bel c = 0 ∧ (far < 0 ∨ ce ((1 + c) * 6 + far.toNat) = 0)
abbrev brkP (lo ce : Nat → Int) (bel : Int) (c : Nat) : Prop := ¬ valZ lo ce bel c = floorZ (valZ lo ce bel c) bel * bel
def spA (kd lo ce : Nat → Int) (bel : Int) (c : Nat) : Bool := decide (1 ≤ kd c ∧ brkP lo ce bel c)
def spS (kd pa lo ce : Nat → Int) (bel far : Int) (nc : Nat) (c : Nat) : Bool := decide (kd c = 2 ∧ (0 ≤ pa c ∧ pa c < (nc : Int)) ∧ nthP lo ce bel far c ∧ ¬ nthP lo ce bel far (pa c).toNat)
def splitZ (kd pa lo ce : Nat → Int) (bel far : Int) (nc : Nat) : Int := if 0 ≤ firstZ (spA kd lo ce bel) nc then firstZ (spA kd lo ce bel) nc else firstZ (spS kd pa lo ce bel far nc) nc
theorem tm32 {a b : Int} (h1 : -1000 ≤ a) (h2 : a ≤ 1000) : I32 (Int.tmod a b) := by
  have e : (Int.tmod a b).natAbs ≤ a.natAbs := by rw [Int.natAbs_tmod]; exact Nat.mod_le _ _
  constructor <;> omega
set_option maxHeartbeats 4000000 in
set_option maxRecDepth 100000 in
theorem kX4_isOutOfStep (l : Launch) (D : va_G) (cA : Nat → ClassId) (k : Int) (n : Int) (d : Int) (hk : 0 ≤ k ∧ k ≤ 2) (hn : -1000 ≤ n ∧ n ≤ 1000) (hd : 0 ≤ d ∧ d ≤ 9) : CR l yX4_isOutOfStep wsX4_isOutOfStep ({ frames := 0, cells := 0, slots := 0, locals := 0 }) D cA [iv (k), iv (n), iv (d)] ([]) (fun ov => ov = some (iv (if k = 2 ∧ 0 < d ∧ ¬ Int.tmod n d = 0 then 1 else 0))) := by
  refine CR.mk (cc := cX4_isOutOfStep) (maxL := 3) (ret := (some .boolean)) (by decide +kernel) rfl (Nat.le_of_ble_eq_true rfl) ?_
  intro p_ e_ s_ m_ b_ me_ c_ F
  have hV := @IR_P D s_
  refine g_lsub ([(0, iv (k)), (1, iv (n)), (2, iv (d))]) [0, 1, 2] rfl ?_
  refine g_iload_n F 0 rfl rfl dX4_isOutOfStep_0 ?_
  refine g_iconst F dX4_isOutOfStep_1 ?_
  refine g_icmp_ne F (tgt := 19) dX4_isOutOfStep_2 (by decide) ⟨by omega, by omega⟩ ⟨by decide, by decide⟩ (fun c_1 => ?_) (fun c_1 => ?_)
  · skip
    refine g_iconst F dX4_isOutOfStep_19 ?_
    exact g_zretR F rfl (nar_01 (Or.inl rfl)) (congrArg (fun z => some (iv z)) (show (0 : Int) = if k = 2 ∧ 0 < d ∧ ¬ Int.tmod n d = 0 then 1 else 0 by first | rfl | (rw [if_neg (by omega)]; done) | (rw [if_pos (by omega)]; done) | (exfalso; omega))) dX4_isOutOfStep_20
  · skip
    refine g_iload_n F 2 rfl rfl dX4_isOutOfStep_5 ?_
    refine g_if_le F (tgt := 19) dX4_isOutOfStep_6 (by decide) ⟨by omega, by omega⟩ (fun c_2 => ?_) (fun c_2 => ?_)
    · skip
      refine g_iconst F dX4_isOutOfStep_19 ?_
      exact g_zretR F rfl (nar_01 (Or.inl rfl)) (congrArg (fun z => some (iv z)) (show (0 : Int) = if k = 2 ∧ 0 < d ∧ ¬ Int.tmod n d = 0 then 1 else 0 by first | rfl | (rw [if_neg (by omega)]; done) | (rw [if_pos (by omega)]; done) | (exfalso; omega))) dX4_isOutOfStep_20
    · skip
      refine g_iload_n F 1 rfl rfl dX4_isOutOfStep_9 ?_
      refine g_iload_n F 2 rfl rfl dX4_isOutOfStep_10 ?_
      refine g_irem F ⟨by omega, by omega⟩ ⟨by omega, by omega⟩ (by omega) (by omega) dX4_isOutOfStep_11 ?_
      refine g_if_eq F (tgt := 19) dX4_isOutOfStep_12 (by decide) (tm32 (by omega) (by omega)) (fun c_3 => ?_) (fun c_3 => ?_)
      · skip
        refine g_iconst F dX4_isOutOfStep_19 ?_
        exact g_zretR F rfl (nar_01 (Or.inl rfl)) (congrArg (fun z => some (iv z)) (show (0 : Int) = if k = 2 ∧ 0 < d ∧ ¬ Int.tmod n d = 0 then 1 else 0 by first | rfl | (rw [if_neg (by omega)]; done) | (rw [if_pos (by omega)]; done) | (exfalso; omega))) dX4_isOutOfStep_20
      · skip
        refine g_iconst F dX4_isOutOfStep_15 ?_
        refine g_goto F (tgt := 20) dX4_isOutOfStep_16 (by decide) ?_
        exact g_zretR F rfl (nar_01 (Or.inr rfl)) (congrArg (fun z => some (iv z)) (show (1 : Int) = if k = 2 ∧ 0 < d ∧ ¬ Int.tmod n d = 0 then 1 else 0 by first | rfl | (rw [if_neg (by omega)]; done) | (rw [if_pos (by omega)]; done) | (exfalso; omega))) dX4_isOutOfStep_20

set_option maxHeartbeats 4000000 in
set_option maxRecDepth 100000 in
theorem kX4_inStep (l : Launch) (D : va_G) (cA : Nat → ClassId) (k : Int) (n : Int) (d : Int) (hk : 0 ≤ k ∧ k ≤ 2) (hn : -1000 ≤ n ∧ n ≤ 1000) (hd : 0 ≤ d ∧ d ≤ 9) : CR l yX4_inStep wsX4_inStep ({ frames := 1, cells := 0, slots := 0, locals := 22 }) D cA [iv (k), iv (n), iv (d)] ([]) (fun ov => ov = some (iv (inStepZ k n d))) := by
  refine CR.mk (cc := cX4_inStep) (maxL := 4) (ret := (some .int)) (by decide +kernel) rfl (Nat.le_of_ble_eq_true rfl) ?_
  intro p_ e_ s_ m_ b_ me_ c_ F
  have hV := @IR_P D s_
  refine g_lsub ([(0, iv (k)), (1, iv (n)), (2, iv (d))]) [0, 1, 2] rfl ?_
  refine g_iload_n F 2 rfl rfl dX4_inStep_0 ?_
  refine g_if_le F (tgt := 9) dX4_inStep_1 (by decide) ⟨by omega, by omega⟩ (fun c_1 => ?_) (fun c_1 => ?_)
  · skip
    refine g_iload_n F 1 rfl rfl dX4_inStep_9 ?_
    exact g_zretR F rfl rfl (congrArg (fun z => some (iv z)) (show (n : Int) = inStepZ k n d by unfold inStepZ; first | (rw [if_pos (by omega)]; done) | (rw [if_neg (by omega), if_pos (by omega)]; done) | (rw [if_neg (by omega), if_neg (by omega)]; done))) dX4_inStep_10
  · skip
    refine g_iload_n F 0 rfl rfl dX4_inStep_4 ?_
    refine g_iconst F dX4_inStep_5 ?_
    refine g_icmp_ne F (tgt := 11) dX4_inStep_6 (by decide) ⟨by omega, by omega⟩ ⟨by decide, by decide⟩ (fun c_2 => ?_) (fun c_2 => ?_)
    · skip
      refine g_iload_n F 1 rfl rfl dX4_inStep_11 ?_
      refine g_iload_n F 2 rfl rfl dX4_inStep_12 ?_
      refine g_callRS F hV (As := [iv (n), iv (d)]) (rest := []) (kJ9_floorDiv_7cf53 l D cA n d (by omega) (by omega)) (va_cwS 2 F.2.2.2.2.1 gX4_inStep_J9_floorDiv_7cf53 rfl rfl rfl (by decide +kernel) ⟨Nat.le_of_ble_eq_true rfl, Nat.le_of_ble_eq_true rfl⟩) [] rfl rfl rfl (Nat.le_of_ble_eq_true rfl) ⟨Nat.le_of_ble_eq_true rfl, Nat.le_of_ble_eq_true rfl⟩ dX4_inStep_13 (fun v hv => ?_)
      subst hv
      refine g_eq (st' := [iv (floorZ n d)]) rfl rfl rfl ?_
      refine g_iload_n F 2 rfl rfl dX4_inStep_16 ?_
      refine g_imul F dX4_inStep_17 ?_
      refine g_istore_n F ([(3, iv ((floorZ n d) * d)), (0, iv (k)), (1, iv (n)), (2, iv (d))]) rfl rfl (by decide) dX4_inStep_18 ?_
      have hfs := floorZ_spec (a := n) (b := d) (by omega)
      refine g_iload_n F 1 rfl rfl dX4_inStep_19 ?_
      refine g_if_eq F (tgt := 28) dX4_inStep_20 (by decide) ⟨by omega, by omega⟩ (fun c_3 => ?_) (fun c_3 => ?_)
      · skip
        refine g_iload_n F 0 rfl rfl dX4_inStep_28 ?_
        refine g_goto F (tgt := 35) dX4_inStep_29 (by decide) ?_
        exact g_zretR F rfl rfl (congrArg (fun z => some (iv z)) (show ((floorZ n d) * d : Int) = inStepZ k n d by unfold inStepZ; first | (rw [if_pos (by omega)]; done) | (rw [if_neg (by omega), if_pos (by omega)]; done) | (rw [if_neg (by omega), if_neg (by omega)]; done))) dX4_inStep_35
      · skip
        refine g_iload_n F 0 rfl rfl dX4_inStep_23 ?_
        refine g_iload_n F 2 rfl rfl dX4_inStep_24 ?_
        refine g_icmp_ne F (tgt := 32) dX4_inStep_25 (by decide) ⟨by omega, by omega⟩ ⟨by omega, by omega⟩ (fun c_4 => ?_) (fun c_4 => ?_)
        · skip
          refine g_iload_n F 0 rfl rfl dX4_inStep_32 ?_
          refine g_iload_n F 3 rfl rfl dX4_inStep_33 ?_
          refine g_iadd F dX4_inStep_34 ?_
          exact g_zretR F rfl rfl (congrArg (fun z => some (iv z)) (show (((floorZ n d) * d) + d : Int) = inStepZ k n d by unfold inStepZ; first | (rw [if_pos (by omega)]; done) | (rw [if_neg (by omega), if_pos (by omega)]; done) | (rw [if_neg (by omega), if_neg (by omega)]; done))) dX4_inStep_35
        · skip
          refine g_iload_n F 0 rfl rfl dX4_inStep_28 ?_
          refine g_goto F (tgt := 35) dX4_inStep_29 (by decide) ?_
          exact g_zretR F rfl rfl (congrArg (fun z => some (iv z)) (show ((floorZ n d) * d : Int) = inStepZ k n d by unfold inStepZ; first | (rw [if_pos (by omega)]; done) | (rw [if_neg (by omega), if_pos (by omega)]; done) | (rw [if_neg (by omega), if_neg (by omega)]; done))) dX4_inStep_35
    · skip
      refine g_iload_n F 1 rfl rfl dX4_inStep_9 ?_
      exact g_zretR F rfl rfl (congrArg (fun z => some (iv z)) (show (n : Int) = inStepZ k n d by unfold inStepZ; first | (rw [if_pos (by omega)]; done) | (rw [if_neg (by omega), if_pos (by omega)]; done) | (rw [if_neg (by omega), if_neg (by omega)]; done))) dX4_inStep_10

set_option maxHeartbeats 4000000 in
set_option maxRecDepth 100000 in
theorem kX4_columnToSplit (l : Launch) (D : va_G) (cA : Nat → ClassId) (s : Nat → Nat) (s_tb : Nat → Option Nat) (s_sp : Nat → Int) (s_sg : Nat → Int) (a : Nat → Nat) (a_kd : Nat → Int) (a_lo : Nat → Int) (a_hi : Nat → Int) (a_co : Nat → Int) (a_pa : Nat → Int) (a_rk : Nat → Int) (a_nu : Nat → Int) (a_ct : Nat → Int) (a_sa : Nat → Int) (a_nc : Nat) (a_nr : Nat) (t : Nat → Nat) (t_ce : Nat → Int) (t_ti : Nat → Int) (t_lo : Nat → Int) (t_hi : Nat → Int) (t_gl : Nat → Int) (t_sh : Nat → Int) (t_nc : Nat) (t_nl : Nat) (t_bel : Int) (t_far : Int) (qnc : a_nc ≤ 5) (qkd : ∀ j, 0 ≤ a_kd j ∧ a_kd j ≤ 2) (qpa : ∀ j, a_pa j = -2000000005 ∨ (0 ≤ a_pa j ∧ a_pa j < 5)) (hlo : ∀ j, -20 ≤ t_lo j ∧ t_lo j ≤ 20) (hf : -1 ≤ t_far ∧ t_far ≤ 4) (hB : ∀ i k, k < 5 → -8000000 ≤ t_ce (i * 6 + k) ∧ t_ce (i * 6 + k) ≤ 8000000) (hC : ∀ i, -100000000000 ≤ t_ce (i * 6 + 5) ∧ t_ce (i * 6 + 5) ≤ 100000000000) (hbl : 0 < t_bel ∧ t_bel ≤ 8000000) (hfl : ∀ j, j < a_nc → 1 ≤ a_kd j → -100 ≤ floorZ (valZ t_lo t_ce t_bel j) t_bel ∧ floorZ (valZ t_lo t_ce t_bel j) t_bel ≤ 100) : CR l yX4_columnToSplit wsX4_columnToSplit ({ frames := 3, cells := 0, slots := 0, locals := 67 }) D cA [.ref (s 0), .ref (a 0), .ref (t 0)] (wS cA s (s_tb) (s_sp) (s_sg) ++ wP cA a (a_kd) (a_lo) (a_hi) (a_co) (a_pa) (a_rk) (a_nu) (a_ct) (a_sa) (((a_nc : Nat) : Int)) (((a_nr : Nat) : Int)) ++ wT cA t (t_ce) (t_ti) (t_lo) (t_hi) (t_gl) (t_sh) (((t_nc : Nat) : Int)) (((t_nl : Nat) : Int)) (t_bel) (t_far)) (fun ov => ov = some (iv (splitZ a_kd a_pa t_lo t_ce t_bel t_far a_nc))) := by
  refine CR.mk (cc := cX4_columnToSplit) (maxL := 5) (ret := (some .int)) (by decide +kernel) rfl (Nat.le_of_ble_eq_true rfl) ?_
  intro p_ e_ s_ m_ b_ me_ c_ F
  have hV := @IR_P D s_
  have iX2 : ∀ w ∈ u_ws RX2 TX2 11, w ∈ wsX4_columnToSplit := by decide +kernel
  refine g_lsub ([(0, .ref (s 0)), (1, .ref (a 0)), (2, .ref (t 0))]) [0, 1, 2] rfl ?_
  refine g_iconst F dX4_columnToSplit_0 ?_
  refine g_istore_n F ([(3, iv (0)), (0, .ref (s 0)), (1, .ref (a 0)), (2, .ref (t 0))]) rfl rfl (by decide) dX4_columnToSplit_1 ?_
  have lp2 : ∀ (n : Nat) (c : Nat) (hc : c ≤ a_nc) (hj : ∀ j, j < c → (spA a_kd t_lo t_ce t_bel) j = false), a_nc - c < n → GW p_ l e_ (headSpec wsX4_columnToSplit ({ frames := 3, cells := 0, slots := 0, locals := 67 })).room s_ m_ ([.ref (s 0), .ref (a 0), .ref (t 0)]).toArray b_ me_ c_ (MQ b_ (Qr (fun ov => ov = some (iv (splitZ a_kd a_pa t_lo t_ce t_bel t_far a_nc)))) ([.ref (s 0), .ref (a 0), .ref (t 0)]).toArray s_ 0 0 (fun _ => False)) (IR D s_) 5 0 0 (wS cA s (s_tb) (s_sp) (s_sg) ++ wP cA a (a_kd) (a_lo) (a_hi) (a_co) (a_pa) (a_rk) (a_nu) (a_ct) (a_sa) (((a_nc : Nat) : Int)) (((a_nr : Nat) : Int)) ++ wT cA t (t_ce) (t_ti) (t_lo) (t_hi) (t_gl) (t_sh) (((t_nc : Nat) : Int)) (((t_nl : Nat) : Int)) (t_bel) (t_far)) ([(0, .ref (s 0)), (1, .ref (a 0)), (2, .ref (t 0)), (3, iv (((c : Nat) : Int)))]) [] 2 := by
    intro n; induction n with
    | zero => intro c; intros; omega
    | succ n ih2 =>
      intro c hc hj hmu2
      refine g_iload_n F 3 rfl rfl dX4_columnToSplit_2 ?_
      refine g_aload_n F 1 rfl rfl dX4_columnToSplit_3 ?_
      refine g_get F hV iX2 4 rfl rfl 9 (by decide) (List.mem_of_getElem? (i := 1) rfl) rfl dX4_columnToSplit_4 ?_
      refine g_icmp_ge F (tgt := 34) dX4_columnToSplit_7 (by decide) ⟨by omega, by omega⟩ ⟨by omega, by omega⟩ (fun c_1 => ?_) (fun c_1 => ?_)
      · skip
        refine g_iconst F dX4_columnToSplit_34 ?_
        refine g_istore_n F ([(3, iv (0)), (0, .ref (s 0)), (1, .ref (a 0)), (2, .ref (t 0))]) rfl rfl (by decide) dX4_columnToSplit_35 ?_
        have lp36 : ∀ (n : Nat) (c2 : Nat) (hc2 : c2 ≤ a_nc) (hj2 : ∀ j, j < c2 → spS a_kd a_pa t_lo t_ce t_bel t_far a_nc j = false), a_nc - c2 < n → GW p_ l e_ (headSpec wsX4_columnToSplit ({ frames := 3, cells := 0, slots := 0, locals := 67 })).room s_ m_ ([.ref (s 0), .ref (a 0), .ref (t 0)]).toArray b_ me_ c_ (MQ b_ (Qr (fun ov => ov = some (iv (splitZ a_kd a_pa t_lo t_ce t_bel t_far a_nc)))) ([.ref (s 0), .ref (a 0), .ref (t 0)]).toArray s_ 0 0 (fun _ => False)) (IR D s_) 5 0 0 (wS cA s (s_tb) (s_sp) (s_sg) ++ wP cA a (a_kd) (a_lo) (a_hi) (a_co) (a_pa) (a_rk) (a_nu) (a_ct) (a_sa) (((a_nc : Nat) : Int)) (((a_nr : Nat) : Int)) ++ wT cA t (t_ce) (t_ti) (t_lo) (t_hi) (t_gl) (t_sh) (((t_nc : Nat) : Int)) (((t_nl : Nat) : Int)) (t_bel) (t_far)) ([(0, .ref (s 0)), (1, .ref (a 0)), (2, .ref (t 0)), (3, iv (((c2 : Nat) : Int)))]) [] 36 := by
          intro n; induction n with
          | zero => intro c2; intros; omega
          | succ n ih36 =>
            intro c2 hc2 hj2 hmu36
            refine g_iload_n F 3 rfl rfl dX4_columnToSplit_36 ?_
            refine g_aload_n F 1 rfl rfl dX4_columnToSplit_37 ?_
            refine g_get F hV iX2 4 rfl rfl 9 (by decide) (List.mem_of_getElem? (i := 1) rfl) rfl dX4_columnToSplit_38 ?_
            refine g_icmp_ge F (tgt := 94) dX4_columnToSplit_41 (by decide) ⟨by omega, by omega⟩ ⟨by omega, by omega⟩ (fun c_2 => ?_) (fun c_2 => ?_)
            · skip
              refine g_iconst F dX4_columnToSplit_94 ?_
              exact g_zretR F rfl rfl (congrArg (fun z => some (iv z)) (show (-1 : Int) = splitZ a_kd a_pa t_lo t_ce t_bel t_far a_nc by unfold splitZ; rw [firstZ_none (f := spA a_kd t_lo t_ce t_bel) (fun j w => hj j (by omega)), if_neg (by decide), firstZ_none (f := spS a_kd a_pa t_lo t_ce t_bel t_far a_nc) (fun j w => hj2 j (by omega))])) dX4_columnToSplit_95
            · skip
              refine g_aload_n F 1 rfl rfl dX4_columnToSplit_44 ?_
              refine g_get F hV iX2 4 rfl rfl 4 (by decide) (List.mem_of_getElem? (i := 2) rfl) rfl dX4_columnToSplit_45 ?_
              refine g_iload_n F 3 rfl rfl dX4_columnToSplit_48 ?_
              have r_3 := qpa (c2)
              refine g_iald F hV 9 rfl (c2) (by omega) (by omega) (by decide) dX4_columnToSplit_49 ?_
              refine g_istore F ([(4, iv (a_pa c2)), (0, .ref (s 0)), (1, .ref (a 0)), (2, .ref (t 0)), (3, iv (((c2 : Nat) : Int)))]) rfl (by decide) dX4_columnToSplit_50 ?_
              refine g_aload_n F 2 rfl rfl dX4_columnToSplit_52 ?_
              refine g_iload_n F 4 rfl rfl dX4_columnToSplit_53 ?_
              refine g_callRV F hV (As := [iv (((c2 : Nat) : Int))]) (rest := []) (kX2_isSwitch l D cA a a_kd a_lo a_hi a_co a_pa a_rk a_nu a_ct a_sa a_nc a_nr c2 (by omega) (qkd)) (cwV 1 F.2.2.2.2.1 gX4_columnToSplit_X2_isSwitch rfl rfl rfl (by decide +kernel) ⟨Nat.le_of_ble_eq_true rfl, Nat.le_of_ble_eq_true rfl⟩) rfl rfl (q0 := 0) rfl [4, 5, 6, 7, 8, 9, 10, 11, 12, 13] rfl rfl rfl (Nat.le_of_ble_eq_true rfl) ⟨Nat.le_of_ble_eq_true rfl, Nat.le_of_ble_eq_true rfl⟩ dX4_columnToSplit_54 (fun v hv => ?_)
              subst hv
              refine g_eq (st' := [iv (if a_kd c2 = 2 then 1 else 0)]) rfl rfl rfl ?_
              refine g_ifb_eq F (tgt := 88) dX4_columnToSplit_57 (by decide) (fun c_4 => ?_) (fun c_4 => ?_)
              · skip
                refine g_iinc F 4 rfl ([(3, iv ((((c2 : Nat) : Int)) + 1)), (4, iv (a_pa c2)), (0, .ref (s 0)), (1, .ref (a 0)), (2, .ref (t 0))]) rfl (by decide) dX4_columnToSplit_88 ?_
                refine g_goto F (tgt := 36) dX4_columnToSplit_91 (by decide) ?_
                refine g_lsub ([(0, .ref (s 0)), (1, .ref (a 0)), (2, .ref (t 0)), (3, iv ((((c2 : Nat) : Int)) + 1))]) [2, 3, 4, 0] rfl ?_
                exact ih36 (c2 + 1) (by omega) (fun j w => by rcases (show j < c2 ∨ j = c2 by omega) with q | q; exact hj2 j q; subst q; unfold spS; simp only [decide_eq_false_iff_not]; rintro ⟨q1, q2, q3, q4⟩; first | exact absurd q1 (by assumption) | exact absurd q2 (by assumption) | exact absurd q3 (by assumption) | exact absurd (by assumption) q4 | (rw [hpx, Int.toNat_natCast] at q4; exact absurd (by assumption) q4)) (by omega)
              · skip
                refine g_aload_n F 2 rfl rfl dX4_columnToSplit_60 ?_
                refine g_iload F 0 rfl dX4_columnToSplit_61 ?_
                refine g_callRV F hV (As := [iv (a_pa c2)]) (rest := []) (kX2_hasColumn l D cA a a_kd a_lo a_hi a_co a_pa a_rk a_nu a_ct a_sa a_nc a_nr (a_pa c2) (by omega) (qnc)) (cwV 1 F.2.2.2.2.1 gX4_columnToSplit_X2_hasColumn rfl rfl rfl (by decide +kernel) ⟨Nat.le_of_ble_eq_true rfl, Nat.le_of_ble_eq_true rfl⟩) rfl rfl (q0 := 0) rfl [4, 5, 6, 7, 8, 9, 10, 11, 12, 13] rfl rfl rfl (Nat.le_of_ble_eq_true rfl) ⟨Nat.le_of_ble_eq_true rfl, Nat.le_of_ble_eq_true rfl⟩ dX4_columnToSplit_63 (fun v hv => ?_)
                subst hv
                refine g_eq (st' := [iv (if 0 ≤ (a_pa c2) ∧ (a_pa c2) < a_nc then 1 else 0)]) rfl rfl rfl ?_
                refine g_ifb_eq F (tgt := 88) dX4_columnToSplit_66 (by decide) (fun c_5 => ?_) (fun c_5 => ?_)
                · skip
                  refine g_iinc F 4 rfl ([(3, iv ((((c2 : Nat) : Int)) + 1)), (4, iv (a_pa c2)), (0, .ref (s 0)), (1, .ref (a 0)), (2, .ref (t 0))]) rfl (by decide) dX4_columnToSplit_88 ?_
                  refine g_goto F (tgt := 36) dX4_columnToSplit_91 (by decide) ?_
                  refine g_lsub ([(0, .ref (s 0)), (1, .ref (a 0)), (2, .ref (t 0)), (3, iv ((((c2 : Nat) : Int)) + 1))]) [2, 3, 4, 0] rfl ?_
                  exact ih36 (c2 + 1) (by omega) (fun j w => by rcases (show j < c2 ∨ j = c2 by omega) with q | q; exact hj2 j q; subst q; unfold spS; simp only [decide_eq_false_iff_not]; rintro ⟨q1, q2, q3, q4⟩; first | exact absurd q1 (by assumption) | exact absurd q2 (by assumption) | exact absurd q3 (by assumption) | exact absurd (by assumption) q4 | (rw [hpx, Int.toNat_natCast] at q4; exact absurd (by assumption) q4)) (by omega)
                · skip
                  obtain ⟨px, hpx⟩ : ∃ px : Nat, a_pa c2 = (px : Int) := ⟨(a_pa c2).toNat, by omega⟩
                  refine g_aload_n F 3 rfl rfl dX4_columnToSplit_69 ?_
                  refine g_iload_n F 4 rfl rfl dX4_columnToSplit_70 ?_
                  refine g_callRV F hV (As := [iv (((c2 : Nat) : Int))]) (rest := []) (kX5_isNothing l D cA t t_ce t_ti t_lo t_hi t_gl t_sh t_nc t_nl t_bel t_far c2 (by omega) (hlo) (hf) (hB) (hC) (hbl)) (cwV 1 F.2.2.2.2.1 gX4_columnToSplit_X5_isNothing rfl rfl rfl (by decide +kernel) ⟨Nat.le_of_ble_eq_true rfl, Nat.le_of_ble_eq_true rfl⟩) rfl rfl (q0 := 0) rfl [14, 15, 16, 17, 18, 19, 20] rfl rfl rfl (Nat.le_of_ble_eq_true rfl) ⟨Nat.le_of_ble_eq_true rfl, Nat.le_of_ble_eq_true rfl⟩ dX4_columnToSplit_71 (fun v hv => ?_)
                  subst hv
                  refine g_eq (st' := [iv (if valZ t_lo t_ce t_bel c2 = 0 ∧ (t_far < 0 ∨ t_ce ((1 + c2) * 6 + t_far.toNat) = 0) then 1 else 0)]) rfl rfl rfl ?_
                  refine g_ifb_eq F (tgt := 88) dX4_columnToSplit_74 (by decide) (fun c_6 => ?_) (fun c_6 => ?_)
                  · skip
                    refine g_iinc F 4 rfl ([(3, iv ((((c2 : Nat) : Int)) + 1)), (4, iv (a_pa c2)), (0, .ref (s 0)), (1, .ref (a 0)), (2, .ref (t 0))]) rfl (by decide) dX4_columnToSplit_88 ?_
                    refine g_goto F (tgt := 36) dX4_columnToSplit_91 (by decide) ?_
                    refine g_lsub ([(0, .ref (s 0)), (1, .ref (a 0)), (2, .ref (t 0)), (3, iv ((((c2 : Nat) : Int)) + 1))]) [2, 3, 4, 0] rfl ?_
                    exact ih36 (c2 + 1) (by omega) (fun j w => by rcases (show j < c2 ∨ j = c2 by omega) with q | q; exact hj2 j q; subst q; unfold spS; simp only [decide_eq_false_iff_not]; rintro ⟨q1, q2, q3, q4⟩; first | exact absurd q1 (by assumption) | exact absurd q2 (by assumption) | exact absurd q3 (by assumption) | exact absurd (by assumption) q4 | (rw [hpx, Int.toNat_natCast] at q4; exact absurd (by assumption) q4)) (by omega)
                  · skip
                    refine g_aload_n F 3 rfl rfl dX4_columnToSplit_77 ?_
                    refine g_iload F 0 rfl dX4_columnToSplit_78 ?_
                    refine g_eq (st' := [iv (((px : Nat) : Int)), .ref (t 0)]) rfl rfl (congrArg (fun zz => [iv zz, .ref (t 0)]) (show (a_pa c2 : Int) = ((px : Nat) : Int) from hpx)) ?_
                    refine g_callRV F hV (As := [iv (((px : Nat) : Int))]) (rest := []) (kX5_isNothing l D cA t t_ce t_ti t_lo t_hi t_gl t_sh t_nc t_nl t_bel t_far px (by omega) (hlo) (hf) (hB) (hC) (hbl)) (cwV 1 F.2.2.2.2.1 gX4_columnToSplit_X5_isNothing rfl rfl rfl (by decide +kernel) ⟨Nat.le_of_ble_eq_true rfl, Nat.le_of_ble_eq_true rfl⟩) rfl rfl (q0 := 0) rfl [14, 15, 16, 17, 18, 19, 20] rfl rfl rfl (Nat.le_of_ble_eq_true rfl) ⟨Nat.le_of_ble_eq_true rfl, Nat.le_of_ble_eq_true rfl⟩ dX4_columnToSplit_80 (fun v hv => ?_)
                    subst hv
                    refine g_eq (st' := [iv (if valZ t_lo t_ce t_bel px = 0 ∧ (t_far < 0 ∨ t_ce ((1 + px) * 6 + t_far.toNat) = 0) then 1 else 0)]) rfl rfl rfl ?_
                    refine g_ifb_ne F (tgt := 88) dX4_columnToSplit_83 (by decide) (fun c_7 => ?_) (fun c_7 => ?_)
                    · skip
                      refine g_iinc F 4 rfl ([(3, iv ((((c2 : Nat) : Int)) + 1)), (4, iv (a_pa c2)), (0, .ref (s 0)), (1, .ref (a 0)), (2, .ref (t 0))]) rfl (by decide) dX4_columnToSplit_88 ?_
                      refine g_goto F (tgt := 36) dX4_columnToSplit_91 (by decide) ?_
                      refine g_lsub ([(0, .ref (s 0)), (1, .ref (a 0)), (2, .ref (t 0)), (3, iv ((((c2 : Nat) : Int)) + 1))]) [2, 3, 4, 0] rfl ?_
                      exact ih36 (c2 + 1) (by omega) (fun j w => by rcases (show j < c2 ∨ j = c2 by omega) with q | q; exact hj2 j q; subst q; unfold spS; simp only [decide_eq_false_iff_not]; rintro ⟨q1, q2, q3, q4⟩; first | exact absurd q1 (by assumption) | exact absurd q2 (by assumption) | exact absurd q3 (by assumption) | exact absurd (by assumption) q4 | (rw [hpx, Int.toNat_natCast] at q4; exact absurd (by assumption) q4)) (by omega)
                    · skip
                      refine g_iload_n F 4 rfl rfl dX4_columnToSplit_86 ?_
                      exact g_zretR F rfl rfl (congrArg (fun z => some (iv z)) (show (((c2 : Nat) : Int) : Int) = splitZ a_kd a_pa t_lo t_ce t_bel t_far a_nc by unfold splitZ; rw [firstZ_none (f := spA a_kd t_lo t_ce t_bel) (fun j w => hj j (by omega)), if_neg (by decide), firstZ_at (f := spS a_kd a_pa t_lo t_ce t_bel t_far a_nc) (i := c2) hj2 (by unfold spS; simp only [decide_eq_true_eq]; exact ⟨by assumption, by assumption, by assumption, by rw [hpx, Int.toNat_natCast]; assumption⟩) (by omega)])) dX4_columnToSplit_87
        refine g_lsub ([(0, .ref (s 0)), (1, .ref (a 0)), (2, .ref (t 0)), (3, iv (0))]) [1, 2, 3, 0] rfl ?_
        exact lp36 (_ + 1) 0 (by omega) (fun j w => absurd w (Nat.not_lt_zero j)) (Nat.lt_succ_self _)
      · skip
        refine g_aload_n F 1 rfl rfl dX4_columnToSplit_10 ?_
        refine g_iload_n F 3 rfl rfl dX4_columnToSplit_11 ?_
        refine g_callRV F hV (As := [iv (((c : Nat) : Int))]) (rest := []) (kX2_isWhole l D cA a a_kd a_lo a_hi a_co a_pa a_rk a_nu a_ct a_sa a_nc a_nr c (by omega) (qkd)) (cwV 1 F.2.2.2.2.1 gX4_columnToSplit_X2_isWhole rfl rfl rfl (by decide +kernel) ⟨Nat.le_of_ble_eq_true rfl, Nat.le_of_ble_eq_true rfl⟩) rfl rfl (q0 := 0) rfl [4, 5, 6, 7, 8, 9, 10, 11, 12, 13] rfl rfl rfl (Nat.le_of_ble_eq_true rfl) ⟨Nat.le_of_ble_eq_true rfl, Nat.le_of_ble_eq_true rfl⟩ dX4_columnToSplit_12 (fun v hv => ?_)
        subst hv
        refine g_eq (st' := [iv (if 1 ≤ a_kd c then 1 else 0)]) rfl rfl rfl ?_
        refine g_ifb_eq F (tgt := 28) dX4_columnToSplit_15 (by decide) (fun c_8 => ?_) (fun c_8 => ?_)
        · skip
          refine g_iinc F 3 rfl ([(3, iv ((((c : Nat) : Int)) + 1)), (0, .ref (s 0)), (1, .ref (a 0)), (2, .ref (t 0))]) rfl (by decide) dX4_columnToSplit_28 ?_
          refine g_goto F (tgt := 2) dX4_columnToSplit_31 (by decide) ?_
          refine g_lsub ([(0, .ref (s 0)), (1, .ref (a 0)), (2, .ref (t 0)), (3, iv ((((c : Nat) : Int)) + 1))]) [1, 2, 3, 0] rfl ?_
          exact ih2 (c + 1) (by omega) (fun j w => by rcases (show j < c ∨ j = c by omega) with q | q; exact hj j q; subst q; unfold spA; simp only [decide_eq_false_iff_not]; rintro ⟨q1, q2⟩; first | exact absurd q1 (by assumption) | exact absurd q2 (by assumption)) (by omega)
        · skip
          refine g_aload_n F 2 rfl rfl dX4_columnToSplit_18 ?_
          refine g_iload_n F 3 rfl rfl dX4_columnToSplit_19 ?_
          refine g_callRV F hV (As := [iv (((c : Nat) : Int))]) (rest := []) (kX5_isBroken l D cA t t_ce t_ti t_lo t_hi t_gl t_sh t_nc t_nl t_bel t_far c (by omega) (hlo) (hC) (hbl) (hfl c (by omega) (by assumption))) (cwV 1 F.2.2.2.2.1 gX4_columnToSplit_X5_isBroken rfl rfl rfl (by decide +kernel) ⟨Nat.le_of_ble_eq_true rfl, Nat.le_of_ble_eq_true rfl⟩) rfl rfl (q0 := 0) rfl [14, 15, 16, 17, 18, 19, 20] rfl rfl rfl (Nat.le_of_ble_eq_true rfl) ⟨Nat.le_of_ble_eq_true rfl, Nat.le_of_ble_eq_true rfl⟩ dX4_columnToSplit_20 (fun v hv => ?_)
          subst hv
          refine g_eq (st' := [iv (if ¬ valZ t_lo t_ce t_bel c = floorZ (valZ t_lo t_ce t_bel c) t_bel * t_bel then 1 else 0)]) rfl rfl rfl ?_
          refine g_ifb_eq F (tgt := 28) dX4_columnToSplit_23 (by decide) (fun c_9 => ?_) (fun c_9 => ?_)
          · skip
            refine g_iinc F 3 rfl ([(3, iv ((((c : Nat) : Int)) + 1)), (0, .ref (s 0)), (1, .ref (a 0)), (2, .ref (t 0))]) rfl (by decide) dX4_columnToSplit_28 ?_
            refine g_goto F (tgt := 2) dX4_columnToSplit_31 (by decide) ?_
            refine g_lsub ([(0, .ref (s 0)), (1, .ref (a 0)), (2, .ref (t 0)), (3, iv ((((c : Nat) : Int)) + 1))]) [1, 2, 3, 0] rfl ?_
            exact ih2 (c + 1) (by omega) (fun j w => by rcases (show j < c ∨ j = c by omega) with q | q; exact hj j q; subst q; unfold spA; simp only [decide_eq_false_iff_not]; rintro ⟨q1, q2⟩; first | exact absurd q1 (by assumption) | exact absurd q2 (by assumption)) (by omega)
          · skip
            refine g_iload_n F 3 rfl rfl dX4_columnToSplit_26 ?_
            exact g_zretR F rfl rfl (congrArg (fun z => some (iv z)) (show (((c : Nat) : Int) : Int) = splitZ a_kd a_pa t_lo t_ce t_bel t_far a_nc by unfold splitZ; rw [firstZ_at (f := spA a_kd t_lo t_ce t_bel) (i := c) hj (by unfold spA; simp only [decide_eq_true_eq]; exact ⟨by assumption, by assumption⟩) (by omega), if_pos (by omega)])) dX4_columnToSplit_27
  refine g_lsub ([(0, .ref (s 0)), (1, .ref (a 0)), (2, .ref (t 0)), (3, iv (0))]) [1, 2, 3, 0] rfl ?_
  exact lp2 (_ + 1) 0 (by omega) (fun j w => absurd w (Nat.not_lt_zero j)) (Nat.lt_succ_self _)
