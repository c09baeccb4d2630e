def backZ (ce : Nat → Int) (far : Int) (i : Nat) : Int := if far < 0 then 0 else ce (i * 6 + far.toNat)
/-- below 0, 0, above: what a line comes to at the corner -/
def sideZ (ce : Nat → Int) (far : Int) (i : Nat) : Int := if backZ ce far i = 0 then cmpZ (ce (i * 6 + 5)) 0 else cmpZ 0 (backZ ce far i)
theorem cmpZ_rng (a b : Int) : -1 ≤ cmpZ a b ∧ cmpZ a b ≤ 1 := by
  have := cmpZ_spec (rfl : cmpZ a b = cmpZ a b)
  omega
theorem sideZ_rng (ce : Nat → Int) (far : Int) (i : Nat) : -1 ≤ sideZ ce far i ∧ sideZ ce far i ≤ 1 := by
  unfold sideZ
  split
  · exact cmpZ_rng _ _
  · exact cmpZ_rng _ _
def brokB (ce ti : Nat → Int) (far : Int) (i : Nat) : Bool := decide (ti i ≠ 0 ∧ (sideZ ce far i < 0 ∨ (0 < sideZ ce far i ∧ ti i = 2)))
def firstZ (f : Nat → Bool) : Nat → Int
  | 0 => -1
  | n + 1 => if firstZ f n = -1 then (if f n then (n : Int) else -1) else firstZ f n
theorem firstZ_none {f : Nat → Bool} : ∀ {n : Nat}, (∀ j, j < n → f j = false) → firstZ f n = -1
  | 0, _ => rfl
  | n + 1, h => by
    unfold firstZ
    rw [if_pos (firstZ_none (fun j hj => h j (by omega))), if_neg (by rw [h n (by omega)]; decide)]
theorem firstZ_at {f : Nat → Bool} {i : Nat} (h0 : ∀ j, j < i → f j = false) (h1 : f i = true) : ∀ {n : Nat}, i < n → firstZ f n = i
  | 0, h => absurd h (Nat.not_lt_zero i)
  | n + 1, h => by
    unfold firstZ
    by_cases e : i = n
    · subst e
      rw [if_pos (firstZ_none h0), if_pos h1]
    · have ih := firstZ_at h0 h1 (show i < n by omega)
      rw [ih, if_neg (by omega)]
def lexZ (f : Nat → Int) : Nat → Int
  | 0 => 0
  | n + 1 => if lexZ f n = 0 then f n else lexZ f n
theorem lexZ_succ0 {f : Nat → Int} {n : Nat} (h : lexZ f n = 0) : lexZ f (n + 1) = f n := by
  show (if lexZ f n = 0 then f n else lexZ f n) = f n
  rw [if_pos h]
theorem lexZ_stay {f : Nat → Int} {i : Nat} (h : lexZ f i ≠ 0) : ∀ d, lexZ f (i + d) = lexZ f i
  | 0 => rfl
  | d + 1 => by
    show (if lexZ f (i + d) = 0 then f (i + d) else lexZ f (i + d)) = lexZ f i
    rw [lexZ_stay h d, if_neg h]
theorem lexZ_far {f : Nat → Int} {i n : Nat} (h : lexZ f i ≠ 0) (hn : i ≤ n) : lexZ f n = lexZ f i := by
  have := lexZ_stay h (n - i)
  rw [show i + (n - i) = n by omega] at this
  exact this
theorem lexZ_rng {f : Nat → Int} (h : ∀ j, -1 ≤ f j ∧ f j ≤ 1) : ∀ n, -1 ≤ lexZ f n ∧ lexZ f n ≤ 1
  | 0 => by simp [lexZ]
  | n + 1 => by
    unfold lexZ
    split
    · exact h n
    · exact lexZ_rng h n
/-- which of two directions is the cheaper one: -1, 0, 1 -/
def ordZ (ce : Nat → Int) (line k o : Nat) : Nat → Int := lexZ (fun i => cmpZ (ce (i * 6 + k) * ((ce (line * 6 + o)).natAbs : Int)) (ce (i * 6 + o) * ((ce (line * 6 + k)).natAbs : Int)))
theorem ordZ_rng (ce : Nat → Int) (line k o n : Nat) : -1 ≤ ordZ ce line k o n ∧ ordZ ce line k o n ≤ 1 := lexZ_rng (fun _ => cmpZ_rng _ _) n
def cheapZ (ce sh : Nat → Int) (nc line : Nat) (sd : Int) : Nat → Int
  | 0 => -1
  | k + 1 => if sh k = 0 ∧ ce (line * 6 + k) * sd < 0 ∧ (cheapZ ce sh nc line sd k < 0 ∨ ordZ ce line k (cheapZ ce sh nc line sd k).toNat (nc + 1) < 0) then (k : Int) else cheapZ ce sh nc line sd k
theorem cheapZ_rng (ce sh : Nat → Int) (nc line : Nat) (sd : Int) : ∀ k, -1 ≤ cheapZ ce sh nc line sd k ∧ cheapZ ce sh nc line sd k < k
  | 0 => by simp [cheapZ]
  | k + 1 => by
    have := cheapZ_rng ce sh nc line sd k
    unfold cheapZ
    split <;> omega
theorem cheapZ_yes {ce sh : Nat → Int} {nc line : Nat} {sd : Int} {k : Nat} (h : sh k = 0 ∧ ce (line * 6 + k) * sd < 0 ∧ (cheapZ ce sh nc line sd k < 0 ∨ ordZ ce line k (cheapZ ce sh nc line sd k).toNat (nc + 1) < 0)) : cheapZ ce sh nc line sd (k + 1) = k := by
  show (if _ then _ else _) = _
  rw [if_pos h]
theorem cheapZ_no {ce sh : Nat → Int} {nc line : Nat} {sd : Int} {k : Nat} (h : ¬ (sh k = 0 ∧ ce (line * 6 + k) * sd < 0 ∧ (cheapZ ce sh nc line sd k < 0 ∨ ordZ ce line k (cheapZ ce sh nc line sd k).toNat (nc + 1) < 0))) : cheapZ ce sh nc line sd (k + 1) = cheapZ ce sh nc line sd k := by
  show (if _ then _ else _) = _
  rw [if_neg h]
theorem mul_nat {x y : Int} {a b : Nat} (hx : x.natAbs ≤ a) (hy : y.natAbs ≤ b) : (x * y).natAbs ≤ a * b := by
  rw [Int.natAbs_mul]; exact Nat.mul_le_mul hx hy
theorem mul_64 {x y : Int} (hx : x.natAbs ≤ 2000000000) (hy : y.natAbs ≤ 2000000000) : I64 (x * y) := by
  have := mul_nat hx hy
  constructor <;> omega
abbrev valZ (lo ce : Nat → Int) (bel : Int) (c : Nat) : Int := lo c * bel + ce ((1 + c) * 6 + 5)
def fillZ (f : Nat → Int) (a n : Nat) (v : Int) : Nat → Int := fun q => if a ≤ q ∧ q < a + n then v else f q
theorem fill_0 (f : Nat → Int) (a : Nat) (v : Int) : fillZ f a 0 v = f := by
  funext q; unfold fillZ; rw [if_neg (by omega)]
theorem fill_up (f : Nat → Int) (a n : Nat) (v : Int) : va_up (fillZ f a n v) (a + n) v = fillZ f a (n + 1) v := by
  funext q
  unfold va_up fillZ
  by_cases h1 : q = a + n
  · rw [if_pos h1, if_pos (by omega)]
  · rw [if_neg h1]
    by_cases h2 : a ≤ q ∧ q < a + n
    · rw [if_pos h2, if_pos (by omega)]
    · rw [if_neg h2, if_neg (by omega)]
set_option maxHeartbeats 4000000 in
set_option maxRecDepth 100000 in
theorem kX5_costAbove (l : Launch) (D : va_G) (cA : Nat → ClassId) (t : Nat → Nat) (t_ce : Nat → Int) (t_ti : Nat → Int) (t_lo : Nat → Int) (t_hi : Nat → Int) (t_gl : Nat → Int) (t_sh : Nat → Int) (t_nc : Nat) (t_nl : Nat) (t_bel : Int) (t_far : Int) : CR l yX5_costAbove wsX5_costAbove ({ frames := 0, cells := 0, slots := 0, locals := 0 }) D cA [.ref (t 0)] (wT cA t (t_ce) (t_ti) (t_lo) (t_hi) (t_gl) (t_sh) (((t_nc : Nat) : Int)) (((t_nl : Nat) : Int)) (t_bel) (t_far)) (fun ov => ov = some (jv (t_ce 5))) := by
  refine CR.mk (cc := cX5_costAbove) (maxL := 1) (ret := (some .long)) (by decide +kernel) rfl (Nat.le_of_ble_eq_true rfl) ?_
  intro p_ e_ s_ m_ b_ me_ c_ F
  have hV := @IR_P D s_
  have iX5 : ∀ w ∈ u_ws RX5 TX5 10, w ∈ wsX5_costAbove := by decide +kernel
  refine g_lsub ([(0, .ref (t 0))]) [0] rfl ?_
  refine g_aload_n F 0 rfl rfl dX5_costAbove_0 ?_
  refine g_get F hV iX5 0 rfl rfl 0 (by decide) (List.mem_of_getElem? (i := 1) rfl) rfl dX5_costAbove_1 ?_
  refine g_iconst F dX5_costAbove_4 ?_
  refine g_lald F hV 1 rfl (5) (by omega) (by omega) (by decide) dX5_costAbove_5 ?_
  exact g_lretR F rfl (congrArg (fun z => some (jv z)) (show (t_ce 5 : Int) = t_ce 5 by first | rfl | omega)) dX5_costAbove_6

set_option maxHeartbeats 4000000 in
set_option maxRecDepth 100000 in
theorem kX5_isEndless (l : Launch) (D : va_G) (cA : Nat → ClassId) (t : Nat → Nat) (t_ce : Nat → Int) (t_ti : Nat → Int) (t_lo : Nat → Int) (t_hi : Nat → Int) (t_gl : Nat → Int) (t_sh : Nat → Int) (t_nc : Nat) (t_nl : Nat) (t_bel : Int) (t_far : Int) (hf : -1 ≤ t_far ∧ t_far ≤ 4) : CR l yX5_isEndless wsX5_isEndless ({ frames := 0, cells := 0, slots := 0, locals := 0 }) D cA [.ref (t 0)] (wT cA t (t_ce) (t_ti) (t_lo) (t_hi) (t_gl) (t_sh) (((t_nc : Nat) : Int)) (((t_nl : Nat) : Int)) (t_bel) (t_far)) (fun ov => ov = some (iv (if 0 ≤ t_far then 1 else 0))) := by
  refine CR.mk (cc := cX5_isEndless) (maxL := 1) (ret := (some .boolean)) (by decide +kernel) rfl (Nat.le_of_ble_eq_true rfl) ?_
  intro p_ e_ s_ m_ b_ me_ c_ F
  have hV := @IR_P D s_
  have iX5 : ∀ w ∈ u_ws RX5 TX5 10, w ∈ wsX5_isEndless := by decide +kernel
  refine g_lsub ([(0, .ref (t 0))]) [0] rfl ?_
  refine g_aload_n F 0 rfl rfl dX5_isEndless_0 ?_
  refine g_get F hV iX5 0 rfl rfl 9 (by decide) (List.mem_of_getElem? (i := 1) rfl) rfl dX5_isEndless_1 ?_
  refine g_if_lt F (tgt := 11) dX5_isEndless_4 (by decide) ⟨by omega, by omega⟩ (fun c_1 => ?_) (fun c_1 => ?_)
  · skip
    refine g_iconst F dX5_isEndless_11 ?_
    exact g_zretR F rfl (nar_01 (Or.inl rfl)) (congrArg (fun z => some (iv z)) (show (0 : Int) = if 0 ≤ t_far then 1 else 0 by first | rfl | (rw [if_neg (by omega)]; done) | (rw [if_pos (by omega)]; done) | (exfalso; omega))) dX5_isEndless_12
  · skip
    refine g_iconst F dX5_isEndless_7 ?_
    refine g_goto F (tgt := 12) dX5_isEndless_8 (by decide) ?_
    exact g_zretR F rfl (nar_01 (Or.inr rfl)) (congrArg (fun z => some (iv z)) (show (1 : Int) = if 0 ≤ t_far then 1 else 0 by first | rfl | (rw [if_neg (by omega)]; done) | (rw [if_pos (by omega)]; done) | (exfalso; omega))) dX5_isEndless_12

set_option maxHeartbeats 4000000 in
set_option maxRecDepth 100000 in
theorem kX5_valueAbove (l : Launch) (D : va_G) (cA : Nat → ClassId) (t : Nat → Nat) (t_ce : Nat → Int) (t_ti : Nat → Int) (t_lo : Nat → Int) (t_hi : Nat → Int) (t_gl : Nat → Int) (t_sh : Nat → Int) (t_nc : Nat) (t_nl : Nat) (t_bel : Int) (t_far : Int) (c : Nat) (hc : c < 5) (hlo : ∀ j, -20 ≤ t_lo j ∧ t_lo j ≤ 20) : CR l yX5_valueAbove wsX5_valueAbove ({ frames := 0, cells := 0, slots := 0, locals := 0 }) D cA [.ref (t 0), iv (((c : Nat) : Int))] (wT cA t (t_ce) (t_ti) (t_lo) (t_hi) (t_gl) (t_sh) (((t_nc : Nat) : Int)) (((t_nl : Nat) : Int)) (t_bel) (t_far)) (fun ov => ov = some (jv (valZ t_lo t_ce t_bel c))) := by
  refine CR.mk (cc := cX5_valueAbove) (maxL := 2) (ret := (some .long)) (by decide +kernel) rfl (Nat.le_of_ble_eq_true rfl) ?_
  intro p_ e_ s_ m_ b_ me_ c_ F
  have hV := @IR_P D s_
  have iX5 : ∀ w ∈ u_ws RX5 TX5 10, w ∈ wsX5_valueAbove := by decide +kernel
  refine g_lsub ([(0, .ref (t 0)), (1, iv (((c : Nat) : Int)))]) [0, 1] rfl ?_
  refine g_aload_n F 0 rfl rfl dX5_valueAbove_0 ?_
  refine g_get F hV iX5 0 rfl rfl 2 (by decide) (List.mem_of_getElem? (i := 1) rfl) rfl dX5_valueAbove_1 ?_
  refine g_iload_n F 1 rfl rfl dX5_valueAbove_4 ?_
  have r_1 := hlo (c)
  refine g_iald F hV 3 rfl (c) (by omega) (by omega) (by decide) dX5_valueAbove_5 ?_
  refine g_i2l F ⟨by omega, by omega⟩ dX5_valueAbove_6 ?_
  refine g_aload_n F 0 rfl rfl dX5_valueAbove_7 ?_
  refine g_get F hV iX5 0 rfl rfl 8 (by decide) (List.mem_of_getElem? (i := 2) rfl) rfl dX5_valueAbove_8 ?_
  refine g_lmul F dX5_valueAbove_11 ?_
  refine g_aload_n F 0 rfl rfl dX5_valueAbove_12 ?_
  refine g_get F hV iX5 0 rfl rfl 0 (by decide) (List.mem_of_getElem? (i := 3) rfl) rfl dX5_valueAbove_13 ?_
  refine g_iconst F dX5_valueAbove_16 ?_
  refine g_iload_n F 1 rfl rfl dX5_valueAbove_17 ?_
  refine g_iadd F dX5_valueAbove_18 ?_
  refine g_bipush F dX5_valueAbove_19 (by decide) ?_
  refine g_imul F dX5_valueAbove_21 ?_
  refine g_iconst F dX5_valueAbove_22 ?_
  refine g_iadd F dX5_valueAbove_23 ?_
  refine g_lald F hV 1 rfl (((1 + c) * 6) + 5) (by omega) (by omega) (by decide) dX5_valueAbove_24 ?_
  refine g_ladd F dX5_valueAbove_25 ?_
  exact g_lretR F rfl (congrArg (fun z => some (jv z)) (show (((t_lo c) * t_bel) + (t_ce (((1 + c) * 6) + 5)) : Int) = valZ t_lo t_ce t_bel c by rfl)) dX5_valueAbove_26

set_option maxHeartbeats 4000000 in
set_option maxRecDepth 100000 in
theorem kX5_isNothing (l : Launch) (D : va_G) (cA : Nat → ClassId) (t : Nat → Nat) (t_ce : Nat → Int) (t_ti : Nat → Int) (t_lo : Nat → Int) (t_hi : Nat → Int) (t_gl : Nat → Int) (t_sh : Nat → Int) (t_nc : Nat) (t_nl : Nat) (t_bel : Int) (t_far : Int) (c : Nat) (hc : c < 5) (hlo : ∀ j, -20 ≤ t_lo j ∧ t_lo j ≤ 20) (hf : -1 ≤ t_far ∧ t_far ≤ 4) (hB : ∀ i k, k < 5 → -8000000 ≤ t_ce (i * 6 + k) ∧ t_ce (i * 6 + k) ≤ 8000000) (hC : ∀ i, -100000000000 ≤ t_ce (i * 6 + 5) ∧ t_ce (i * 6 + 5) ≤ 100000000000) (hbl : 0 < t_bel ∧ t_bel ≤ 8000000) : CR l yX5_isNothing wsX5_isNothing ({ frames := 1, cells := 0, slots := 0, locals := 21 }) D cA [.ref (t 0), iv (((c : Nat) : Int))] (wT cA t (t_ce) (t_ti) (t_lo) (t_hi) (t_gl) (t_sh) (((t_nc : Nat) : Int)) (((t_nl : Nat) : Int)) (t_bel) (t_far)) (fun ov => ov = some (iv (if valZ t_lo t_ce t_bel c = 0 ∧ (t_far < 0 ∨ t_ce ((1 + c) * 6 + t_far.toNat) = 0) then 1 else 0))) := by
  refine CR.mk (cc := cX5_isNothing) (maxL := 2) (ret := (some .boolean)) (by decide +kernel) rfl (Nat.le_of_ble_eq_true rfl) ?_
  intro p_ e_ s_ m_ b_ me_ c_ F
  have hV := @IR_P D s_
  have iX5 : ∀ w ∈ u_ws RX5 TX5 10, w ∈ wsX5_isNothing := by decide +kernel
  have hl := hlo c
  have hv := mul_nat (x := t_lo c) (y := t_bel) (a := 20) (b := 8000000) (by omega) (by omega)
  have hcc := hC (1 + c)
  refine g_lsub ([(0, .ref (t 0)), (1, iv (((c : Nat) : Int)))]) [0, 1] rfl ?_
  refine g_aload_n F 0 rfl rfl dX5_isNothing_0 ?_
  refine g_iload_n F 1 rfl rfl dX5_isNothing_1 ?_
  refine g_callRV F hV (As := [iv (((c : Nat) : Int))]) (rest := []) (kX5_valueAbove l D cA t t_ce t_ti t_lo t_hi t_gl t_sh t_nc t_nl t_bel t_far c (hc) (hlo)) (cwV 1 F.2.2.2.2.1 gX5_isNothing_X5_valueAbove rfl rfl rfl (by decide +kernel) ⟨Nat.le_of_ble_eq_true rfl, Nat.le_of_ble_eq_true rfl⟩) rfl rfl (q0 := 0) rfl [0, 1, 2, 3, 4, 5, 6] rfl rfl rfl (Nat.le_of_ble_eq_true rfl) ⟨Nat.le_of_ble_eq_true rfl, Nat.le_of_ble_eq_true rfl⟩ dX5_isNothing_2 (fun v hv => ?_)
  subst hv
  refine g_eq (st' := [jv (valZ t_lo t_ce t_bel c)]) rfl rfl rfl ?_
  refine g_lconst F (z := 0) dX5_isNothing_5 (by decide) ?_
  refine g_lcmp_ne F (tgt := 42) dX5_isNothing_6 dX5_isNothing_7 (by decide) ⟨by unfold valZ; omega, by unfold valZ; omega⟩ ⟨by decide, by decide⟩ (fun c_1 => ?_) (fun c_1 => ?_)
  · skip
    refine g_iconst F dX5_isNothing_42 ?_
    exact g_zretR F rfl (nar_01 (Or.inl rfl)) (congrArg (fun z => some (iv z)) (show (0 : Int) = if valZ t_lo t_ce t_bel c = 0 ∧ (t_far < 0 ∨ t_ce ((1 + c) * 6 + t_far.toNat) = 0) then 1 else 0 by first | rfl | (rw [if_neg (by omega)]; done) | (rw [if_pos (by omega)]; done) | (exfalso; omega))) dX5_isNothing_43
  · skip
    refine g_aload_n F 0 rfl rfl dX5_isNothing_10 ?_
    refine g_get F hV iX5 0 rfl rfl 9 (by decide) (List.mem_of_getElem? (i := 1) rfl) rfl dX5_isNothing_11 ?_
    refine g_if_lt F (tgt := 38) dX5_isNothing_14 (by decide) ⟨by omega, by omega⟩ (fun c_2 => ?_) (fun c_2 => ?_)
    · skip
      refine g_iconst F dX5_isNothing_38 ?_
      refine g_goto F (tgt := 43) dX5_isNothing_39 (by decide) ?_
      exact g_zretR F rfl (nar_01 (Or.inr rfl)) (congrArg (fun z => some (iv z)) (show (1 : Int) = if valZ t_lo t_ce t_bel c = 0 ∧ (t_far < 0 ∨ t_ce ((1 + c) * 6 + t_far.toNat) = 0) then 1 else 0 by first | rfl | (rw [if_neg (by omega)]; done) | (rw [if_pos (by omega)]; done) | (exfalso; omega))) dX5_isNothing_43
    · skip
      refine g_aload_n F 0 rfl rfl dX5_isNothing_17 ?_
      refine g_get F hV iX5 0 rfl rfl 0 (by decide) (List.mem_of_getElem? (i := 2) rfl) rfl dX5_isNothing_18 ?_
      refine g_iconst F dX5_isNothing_21 ?_
      refine g_iload_n F 1 rfl rfl dX5_isNothing_22 ?_
      refine g_iadd F dX5_isNothing_23 ?_
      refine g_bipush F dX5_isNothing_24 (by decide) ?_
      refine g_imul F dX5_isNothing_26 ?_
      refine g_aload_n F 0 rfl rfl dX5_isNothing_27 ?_
      refine g_get F hV iX5 0 rfl rfl 9 (by decide) (List.mem_of_getElem? (i := 1) rfl) rfl dX5_isNothing_28 ?_
      refine g_iadd F dX5_isNothing_31 ?_
      have hbb := hB (1 + c) t_far.toNat (by omega)
      refine g_lald F hV 1 rfl ((1 + c) * 6 + t_far.toNat) (by omega) (by omega) (by decide) dX5_isNothing_32 ?_
      refine g_lconst F (z := 0) dX5_isNothing_33 (by decide) ?_
      refine g_lcmp_ne F (tgt := 42) dX5_isNothing_34 dX5_isNothing_35 (by decide) ⟨by omega, by omega⟩ ⟨by decide, by decide⟩ (fun c_3 => ?_) (fun c_3 => ?_)
      · skip
        refine g_iconst F dX5_isNothing_42 ?_
        exact g_zretR F rfl (nar_01 (Or.inl rfl)) (congrArg (fun z => some (iv z)) (show (0 : Int) = if valZ t_lo t_ce t_bel c = 0 ∧ (t_far < 0 ∨ t_ce ((1 + c) * 6 + t_far.toNat) = 0) then 1 else 0 by first | rfl | (rw [if_neg (by omega)]; done) | (rw [if_pos (by omega)]; done) | (exfalso; omega))) dX5_isNothing_43
      · skip
        refine g_iconst F dX5_isNothing_38 ?_
        refine g_goto F (tgt := 43) dX5_isNothing_39 (by decide) ?_
        exact g_zretR F rfl (nar_01 (Or.inr rfl)) (congrArg (fun z => some (iv z)) (show (1 : Int) = if valZ t_lo t_ce t_bel c = 0 ∧ (t_far < 0 ∨ t_ce ((1 + c) * 6 + t_far.toNat) = 0) then 1 else 0 by first | rfl | (rw [if_neg (by omega)]; done) | (rw [if_pos (by omega)]; done) | (exfalso; omega))) dX5_isNothing_43

set_option maxHeartbeats 4000000 in
set_option maxRecDepth 100000 in
theorem kX5_wholePart (l : Launch) (D : va_G) (cA : Nat → ClassId) (t : Nat → Nat) (t_ce : Nat → Int) (t_ti : Nat → Int) (t_lo : Nat → Int) (t_hi : Nat → Int) (t_gl : Nat → Int) (t_sh : Nat → Int) (t_nc : Nat) (t_nl : Nat) (t_bel : Int) (t_far : Int) (c : Nat) (hc : c < 5) (hlo : ∀ j, -20 ≤ t_lo j ∧ t_lo j ≤ 20) (hC : ∀ i, -100000000000 ≤ t_ce (i * 6 + 5) ∧ t_ce (i * 6 + 5) ≤ 100000000000) (hbl : 0 < t_bel ∧ t_bel ≤ 8000000) : CR l yX5_wholePart wsX5_wholePart ({ frames := 1, cells := 0, slots := 0, locals := 25 }) D cA [.ref (t 0), iv (((c : Nat) : Int))] (wT cA t (t_ce) (t_ti) (t_lo) (t_hi) (t_gl) (t_sh) (((t_nc : Nat) : Int)) (((t_nl : Nat) : Int)) (t_bel) (t_far)) (fun ov => ov = some (iv (floorZ (valZ t_lo t_ce t_bel c) t_bel))) := by
  refine CR.mk (cc := cX5_wholePart) (maxL := 2) (ret := (some .int)) (by decide +kernel) rfl (Nat.le_of_ble_eq_true rfl) ?_
  intro p_ e_ s_ m_ b_ me_ c_ F
  have hV := @IR_P D s_
  have iX5 : ∀ w ∈ u_ws RX5 TX5 10, w ∈ wsX5_wholePart := by decide +kernel
  have hl := hlo c
  have hv := mul_nat (x := t_lo c) (y := t_bel) (a := 20) (b := 8000000) (by omega) (by omega)
  have hcc := hC (1 + c)
  refine g_lsub ([(0, .ref (t 0)), (1, iv (((c : Nat) : Int)))]) [0, 1] rfl ?_
  refine g_aload_n F 0 rfl rfl dX5_wholePart_0 ?_
  refine g_get F hV iX5 0 rfl rfl 8 (by decide) (List.mem_of_getElem? (i := 1) rfl) rfl dX5_wholePart_1 ?_
  refine g_lconst F (z := 0) dX5_wholePart_4 (by decide) ?_
  refine g_lcmp_ne F (tgt := 13) dX5_wholePart_5 dX5_wholePart_6 (by decide) ⟨by omega, by omega⟩ ⟨by decide, by decide⟩ (fun c_1 => ?_) (fun c_1 => ?_)
  · skip
    refine g_aload_n F 0 rfl rfl dX5_wholePart_13 ?_
    refine g_iload_n F 1 rfl rfl dX5_wholePart_14 ?_
    refine g_callRV F hV (As := [iv (((c : Nat) : Int))]) (rest := []) (kX5_valueAbove l D cA t t_ce t_ti t_lo t_hi t_gl t_sh t_nc t_nl t_bel t_far c (hc) (hlo)) (cwV 1 F.2.2.2.2.1 gX5_wholePart_X5_valueAbove rfl rfl rfl (by decide +kernel) ⟨Nat.le_of_ble_eq_true rfl, Nat.le_of_ble_eq_true rfl⟩) rfl rfl (q0 := 0) rfl [0, 1, 2, 3, 4, 5, 6] rfl rfl rfl (Nat.le_of_ble_eq_true rfl) ⟨Nat.le_of_ble_eq_true rfl, Nat.le_of_ble_eq_true rfl⟩ dX5_wholePart_15 (fun v hv => ?_)
    subst hv
    refine g_eq (st' := [jv (valZ t_lo t_ce t_bel c)]) rfl rfl rfl ?_
    refine g_aload_n F 0 rfl rfl dX5_wholePart_18 ?_
    refine g_get F hV iX5 0 rfl rfl 8 (by decide) (List.mem_of_getElem? (i := 1) rfl) rfl dX5_wholePart_19 ?_
    refine g_callRS F hV (As := [jv (valZ t_lo t_ce t_bel c), jv (t_bel)]) (rest := []) (kJ9_floorDiv_f86c9 l D cA (valZ t_lo t_ce t_bel c) t_bel (by unfold valZ; omega) (by omega)) (va_cwS 2 F.2.2.2.2.1 gX5_wholePart_J9_floorDiv_f86c9 rfl rfl rfl (by decide +kernel) ⟨Nat.le_of_ble_eq_true rfl, Nat.le_of_ble_eq_true rfl⟩) [] rfl rfl rfl (Nat.le_of_ble_eq_true rfl) ⟨Nat.le_of_ble_eq_true rfl, Nat.le_of_ble_eq_true rfl⟩ dX5_wholePart_22 (fun v hv => ?_)
    subst hv
    refine g_eq (st' := [jv (floorZ (valZ t_lo t_ce t_bel c) t_bel)]) rfl rfl rfl ?_
    refine g_l2i F dX5_wholePart_25 ?_
    exact g_zretR F rfl rfl (congrArg (fun z => some (iv z)) (show (floorZ (valZ t_lo t_ce t_bel c) t_bel : Int) = floorZ (valZ t_lo t_ce t_bel c) t_bel by rfl)) dX5_wholePart_26
  · skip
    exact absurd c_1 (by omega)

set_option maxHeartbeats 4000000 in
set_option maxRecDepth 100000 in
theorem kX5_isBroken (l : Launch) (D : va_G) (cA : Nat → ClassId) (t : Nat → Nat) (t_ce : Nat → Int) (t_ti : Nat → Int) (t_lo : Nat → Int) (t_hi : Nat → Int) (t_gl : Nat → Int) (t_sh : Nat → Int) (t_nc : Nat) (t_nl : Nat) (t_bel : Int) (t_far : Int) (c : Nat) (hc : c < 5) (hlo : ∀ j, -20 ≤ t_lo j ∧ t_lo j ≤ 20) (hC : ∀ i, -100000000000 ≤ t_ce (i * 6 + 5) ∧ t_ce (i * 6 + 5) ≤ 100000000000) (hbl : 0 < t_bel ∧ t_bel ≤ 8000000) (hfl : -100 ≤ floorZ (valZ t_lo t_ce t_bel c) t_bel ∧ floorZ (valZ t_lo t_ce t_bel c) t_bel ≤ 100) : CR l yX5_isBroken wsX5_isBroken ({ frames := 2, cells := 0, slots := 0, locals := 46 }) D cA [.ref (t 0), iv (((c : Nat) : Int))] (wT cA t (t_ce) (t_ti) (t_lo) (t_hi) (t_gl) (t_sh) (((t_nc : Nat) : Int)) (((t_nl : Nat) : Int)) (t_bel) (t_far)) (fun ov => ov = some (iv (if ¬ valZ t_lo t_ce t_bel c = floorZ (valZ t_lo t_ce t_bel c) t_bel * t_bel then 1 else 0))) := by
  refine CR.mk (cc := cX5_isBroken) (maxL := 2) (ret := (some .boolean)) (by decide +kernel) rfl (Nat.le_of_ble_eq_true rfl) ?_
  intro p_ e_ s_ m_ b_ me_ c_ F
  have hV := @IR_P D s_
  have iX5 : ∀ w ∈ u_ws RX5 TX5 10, w ∈ wsX5_isBroken := by decide +kernel
  have hl := hlo c
  have hv := mul_nat (x := t_lo c) (y := t_bel) (a := 20) (b := 8000000) (by omega) (by omega)
  have hcc := hC (1 + c)
  refine g_lsub ([(0, .ref (t 0)), (1, iv (((c : Nat) : Int)))]) [0, 1] rfl ?_
  refine g_aload_n F 0 rfl rfl dX5_isBroken_0 ?_
  refine g_iload_n F 1 rfl rfl dX5_isBroken_1 ?_
  refine g_callRV F hV (As := [iv (((c : Nat) : Int))]) (rest := []) (kX5_valueAbove l D cA t t_ce t_ti t_lo t_hi t_gl t_sh t_nc t_nl t_bel t_far c (hc) (hlo)) (cwV 1 F.2.2.2.2.1 gX5_isBroken_X5_valueAbove rfl rfl rfl (by decide +kernel) ⟨Nat.le_of_ble_eq_true rfl, Nat.le_of_ble_eq_true rfl⟩) rfl rfl (q0 := 0) rfl [0, 1, 2, 3, 4, 5, 6] rfl rfl rfl (Nat.le_of_ble_eq_true rfl) ⟨Nat.le_of_ble_eq_true rfl, Nat.le_of_ble_eq_true rfl⟩ dX5_isBroken_2 (fun v hv => ?_)
  subst hv
  refine g_eq (st' := [jv (valZ t_lo t_ce t_bel c)]) rfl rfl rfl ?_
  refine g_aload_n F 0 rfl rfl dX5_isBroken_5 ?_
  refine g_iload_n F 1 rfl rfl dX5_isBroken_6 ?_
  refine g_callRV F hV (As := [iv (((c : Nat) : Int))]) (rest := [jv (valZ t_lo t_ce t_bel c)]) (kX5_wholePart l D cA t t_ce t_ti t_lo t_hi t_gl t_sh t_nc t_nl t_bel t_far c (hc) (hlo) (hC) (hbl)) (cwV 1 F.2.2.2.2.1 gX5_isBroken_X5_wholePart rfl rfl rfl (by decide +kernel) ⟨Nat.le_of_ble_eq_true rfl, Nat.le_of_ble_eq_true rfl⟩) rfl rfl (q0 := 0) rfl [0, 1, 2, 3, 4, 5, 6] rfl rfl rfl (Nat.le_of_ble_eq_true rfl) ⟨Nat.le_of_ble_eq_true rfl, Nat.le_of_ble_eq_true rfl⟩ dX5_isBroken_7 (fun v hv => ?_)
  subst hv
  refine g_eq (st' := [iv (floorZ (valZ t_lo t_ce t_bel c) t_bel), jv (valZ t_lo t_ce t_bel c)]) rfl rfl rfl ?_
  refine g_i2l F ⟨by omega, by omega⟩ dX5_isBroken_10 ?_
  refine g_aload_n F 0 rfl rfl dX5_isBroken_11 ?_
  refine g_get F hV iX5 0 rfl rfl 8 (by decide) (List.mem_of_getElem? (i := 1) rfl) rfl dX5_isBroken_12 ?_
  refine g_lmul F dX5_isBroken_15 ?_
  refine g_lcmp_eq F (tgt := 24) dX5_isBroken_16 dX5_isBroken_17 (by decide) ⟨by unfold valZ; omega, by unfold valZ; omega⟩ (mul_64 (by omega) (by omega)) (fun c_1 => ?_) (fun c_1 => ?_)
  · skip
    refine g_iconst F dX5_isBroken_24 ?_
    exact g_zretR F rfl (nar_01 (Or.inl rfl)) (congrArg (fun z => some (iv z)) (show (0 : Int) = if ¬ valZ t_lo t_ce t_bel c = floorZ (valZ t_lo t_ce t_bel c) t_bel * t_bel then 1 else 0 by first | (rw [if_pos (by assumption)]) | (rw [if_neg (by simpa using (by assumption))]))) dX5_isBroken_25
  · skip
    refine g_iconst F dX5_isBroken_20 ?_
    refine g_goto F (tgt := 25) dX5_isBroken_21 (by decide) ?_
    exact g_zretR F rfl (nar_01 (Or.inr rfl)) (congrArg (fun z => some (iv z)) (show (1 : Int) = if ¬ valZ t_lo t_ce t_bel c = floorZ (valZ t_lo t_ce t_bel c) t_bel * t_bel then 1 else 0 by first | (rw [if_pos (by assumption)]) | (rw [if_neg (by simpa using (by assumption))]))) dX5_isBroken_25

set_option maxHeartbeats 4000000 in
set_option maxRecDepth 100000 in
theorem kX5_sideOf (l : Launch) (D : va_G) (cA : Nat → ClassId) (t : Nat → Nat) (t_ce : Nat → Int) (t_ti : Nat → Int) (t_lo : Nat → Int) (t_hi : Nat → Int) (t_gl : Nat → Int) (t_sh : Nat → Int) (t_nc : Nat) (t_nl : Nat) (t_bel : Int) (t_far : Int) (i : Nat) (hi : i < 18) (hf : -1 ≤ t_far ∧ t_far ≤ 4) (hB : ∀ i k, k < 5 → -8000000 ≤ t_ce (i * 6 + k) ∧ t_ce (i * 6 + k) ≤ 8000000) (hC : ∀ i, -100000000000 ≤ t_ce (i * 6 + 5) ∧ t_ce (i * 6 + 5) ≤ 100000000000) : CR l yX5_sideOf wsX5_sideOf ({ frames := 1, cells := 0, slots := 0, locals := 23 }) D cA [.ref (t 0), iv (((i : Nat) : Int))] (wT cA t (t_ce) (t_ti) (t_lo) (t_hi) (t_gl) (t_sh) (((t_nc : Nat) : Int)) (((t_nl : Nat) : Int)) (t_bel) (t_far)) (fun ov => ov = some (iv (sideZ t_ce t_far i))) := by
  refine CR.mk (cc := cX5_sideOf) (maxL := 4) (ret := (some .int)) (by decide +kernel) rfl (Nat.le_of_ble_eq_true rfl) ?_
  intro p_ e_ s_ m_ b_ me_ c_ F
  have hV := @IR_P D s_
  have iX5 : ∀ w ∈ u_ws RX5 TX5 10, w ∈ wsX5_sideOf := by decide +kernel
  refine g_lsub ([(0, .ref (t 0)), (1, iv (((i : Nat) : Int)))]) [0, 1] rfl ?_
  refine g_aload_n F 0 rfl rfl dX5_sideOf_0 ?_
  refine g_get F hV iX5 0 rfl rfl 9 (by decide) (List.mem_of_getElem? (i := 1) rfl) rfl dX5_sideOf_1 ?_
  refine g_if_ge F (tgt := 11) dX5_sideOf_4 (by decide) ⟨by omega, by omega⟩ (fun c_1 => ?_) (fun c_1 => ?_)
  · skip
    refine g_aload_n F 0 rfl rfl dX5_sideOf_11 ?_
    refine g_get F hV iX5 0 rfl rfl 0 (by decide) (List.mem_of_getElem? (i := 2) rfl) rfl dX5_sideOf_12 ?_
    refine g_iload_n F 1 rfl rfl dX5_sideOf_15 ?_
    refine g_bipush F dX5_sideOf_16 (by decide) ?_
    refine g_imul F dX5_sideOf_18 ?_
    refine g_aload_n F 0 rfl rfl dX5_sideOf_19 ?_
    refine g_get F hV iX5 0 rfl rfl 9 (by decide) (List.mem_of_getElem? (i := 1) rfl) rfl dX5_sideOf_20 ?_
    refine g_iadd F dX5_sideOf_23 ?_
    have hbb := hB i t_far.toNat (by omega)
    refine g_lald F hV 1 rfl (i * 6 + t_far.toNat) (by omega) (by omega) (by decide) dX5_sideOf_24 ?_
    refine g_lstore_n F ([(2, jv (t_ce (i * 6 + t_far.toNat))), (0, .ref (t 0)), (1, iv (((i : Nat) : Int)))]) rfl rfl (by decide) dX5_sideOf_25 ?_
    refine g_lload_n F 0 rfl rfl dX5_sideOf_26 ?_
    refine g_lconst F (z := 0) dX5_sideOf_27 (by decide) ?_
    refine g_lcmp_eq F (tgt := 40) dX5_sideOf_28 dX5_sideOf_29 (by decide) ⟨by omega, by omega⟩ ⟨by decide, by decide⟩ (fun c_2 => ?_) (fun c_2 => ?_)
    · skip
      have hcc := hC i
      refine g_aload_n F 1 rfl rfl dX5_sideOf_40 ?_
      refine g_get F hV iX5 0 rfl rfl 0 (by decide) (List.mem_of_getElem? (i := 2) rfl) rfl dX5_sideOf_41 ?_
      refine g_iload_n F 2 rfl rfl dX5_sideOf_44 ?_
      refine g_bipush F dX5_sideOf_45 (by decide) ?_
      refine g_imul F dX5_sideOf_47 ?_
      refine g_iconst F dX5_sideOf_48 ?_
      refine g_iadd F dX5_sideOf_49 ?_
      refine g_lald F hV 1 rfl ((i * 6) + 5) (by omega) (by omega) (by decide) dX5_sideOf_50 ?_
      refine g_lconst F (z := 0) dX5_sideOf_51 (by decide) ?_
      refine g_callRS F hV (As := [jv (t_ce ((i * 6) + 5)), jv (0)]) (rest := []) (kJ13_compare_74951 l D cA (t_ce ((i * 6) + 5)) 0 (by omega) (by omega)) (va_cwS 2 F.2.2.2.2.1 gX5_sideOf_J13_compare_74951 rfl rfl rfl (by decide +kernel) ⟨Nat.le_of_ble_eq_true rfl, Nat.le_of_ble_eq_true rfl⟩) [] rfl rfl rfl (Nat.le_of_ble_eq_true rfl) ⟨Nat.le_of_ble_eq_true rfl, Nat.le_of_ble_eq_true rfl⟩ dX5_sideOf_52 (fun v hv => ?_)
      subst hv
      refine g_eq (st' := [iv (cmpZ (t_ce ((i * 6) + 5)) 0)]) rfl rfl rfl ?_
      exact g_zretR F rfl rfl (congrArg (fun z => some (iv z)) (show (cmpZ (t_ce ((i * 6) + 5)) 0 : Int) = sideZ t_ce t_far i by unfold sideZ backZ; first | (rw [if_pos (show t_far < 0 by omega), if_pos rfl]; done) | (rw [if_neg (show ¬ t_far < 0 by omega), if_neg (by omega)]; done) | (rw [if_neg (show ¬ t_far < 0 by omega), if_pos (by omega)]; done))) dX5_sideOf_55
    · skip
      refine g_lconst F (z := 0) dX5_sideOf_32 (by decide) ?_
      refine g_lload_n F 0 rfl rfl dX5_sideOf_33 ?_
      refine g_callRS F hV (As := [jv (0), jv (t_ce (i * 6 + t_far.toNat))]) (rest := []) (kJ13_compare_74951 l D cA 0 (t_ce (i * 6 + t_far.toNat)) (by omega) (by omega)) (va_cwS 2 F.2.2.2.2.1 gX5_sideOf_J13_compare_74951 rfl rfl rfl (by decide +kernel) ⟨Nat.le_of_ble_eq_true rfl, Nat.le_of_ble_eq_true rfl⟩) [] rfl rfl rfl (Nat.le_of_ble_eq_true rfl) ⟨Nat.le_of_ble_eq_true rfl, Nat.le_of_ble_eq_true rfl⟩ dX5_sideOf_34 (fun v hv => ?_)
      subst hv
      refine g_eq (st' := [iv (cmpZ 0 (t_ce (i * 6 + t_far.toNat)))]) rfl rfl rfl ?_
      refine g_goto F (tgt := 55) dX5_sideOf_37 (by decide) ?_
      exact g_zretR F rfl rfl (congrArg (fun z => some (iv z)) (show (cmpZ 0 (t_ce (i * 6 + t_far.toNat)) : Int) = sideZ t_ce t_far i by unfold sideZ backZ; first | (rw [if_pos (show t_far < 0 by omega), if_pos rfl]; done) | (rw [if_neg (show ¬ t_far < 0 by omega), if_neg (by omega)]; done) | (rw [if_neg (show ¬ t_far < 0 by omega), if_pos (by omega)]; done))) dX5_sideOf_55
  · skip
    refine g_lconst F (z := 0) dX5_sideOf_7 (by decide) ?_
    refine g_goto F (tgt := 25) dX5_sideOf_8 (by decide) ?_
    refine g_lstore_n F ([(2, jv (0)), (0, .ref (t 0)), (1, iv (((i : Nat) : Int)))]) rfl rfl (by decide) dX5_sideOf_25 ?_
    refine g_lload_n F 0 rfl rfl dX5_sideOf_26 ?_
    refine g_lconst F (z := 0) dX5_sideOf_27 (by decide) ?_
    refine g_lcmp_eq F (tgt := 40) dX5_sideOf_28 dX5_sideOf_29 (by decide) ⟨by decide, by decide⟩ ⟨by decide, by decide⟩ (fun c_3 => ?_) (fun c_3 => ?_)
    · skip
      have hcc := hC i
      refine g_aload_n F 1 rfl rfl dX5_sideOf_40 ?_
      refine g_get F hV iX5 0 rfl rfl 0 (by decide) (List.mem_of_getElem? (i := 2) rfl) rfl dX5_sideOf_41 ?_
      refine g_iload_n F 2 rfl rfl dX5_sideOf_44 ?_
      refine g_bipush F dX5_sideOf_45 (by decide) ?_
      refine g_imul F dX5_sideOf_47 ?_
      refine g_iconst F dX5_sideOf_48 ?_
      refine g_iadd F dX5_sideOf_49 ?_
      refine g_lald F hV 1 rfl ((i * 6) + 5) (by omega) (by omega) (by decide) dX5_sideOf_50 ?_
      refine g_lconst F (z := 0) dX5_sideOf_51 (by decide) ?_
      refine g_callRS F hV (As := [jv (t_ce ((i * 6) + 5)), jv (0)]) (rest := []) (kJ13_compare_74951 l D cA (t_ce ((i * 6) + 5)) 0 (by omega) (by omega)) (va_cwS 2 F.2.2.2.2.1 gX5_sideOf_J13_compare_74951 rfl rfl rfl (by decide +kernel) ⟨Nat.le_of_ble_eq_true rfl, Nat.le_of_ble_eq_true rfl⟩) [] rfl rfl rfl (Nat.le_of_ble_eq_true rfl) ⟨Nat.le_of_ble_eq_true rfl, Nat.le_of_ble_eq_true rfl⟩ dX5_sideOf_52 (fun v hv => ?_)
      subst hv
      refine g_eq (st' := [iv (cmpZ (t_ce ((i * 6) + 5)) 0)]) rfl rfl rfl ?_
      exact g_zretR F rfl rfl (congrArg (fun z => some (iv z)) (show (cmpZ (t_ce ((i * 6) + 5)) 0 : Int) = sideZ t_ce t_far i by unfold sideZ backZ; first | (rw [if_pos (show t_far < 0 by omega), if_pos rfl]; done) | (rw [if_neg (show ¬ t_far < 0 by omega), if_neg (by omega)]; done) | (rw [if_neg (show ¬ t_far < 0 by omega), if_pos (by omega)]; done))) dX5_sideOf_55
    · skip
      exfalso; omega

set_option maxHeartbeats 4000000 in
set_option maxRecDepth 100000 in
theorem kX5_brokenLine (l : Launch) (D : va_G) (cA : Nat → ClassId) (t : Nat → Nat) (t_ce : Nat → Int) (t_ti : Nat → Int) (t_lo : Nat → Int) (t_hi : Nat → Int) (t_gl : Nat → Int) (t_sh : Nat → Int) (t_nc : Nat) (t_nl : Nat) (t_bel : Int) (t_far : Int) (hnl : t_nl ≤ 18) (hf : -1 ≤ t_far ∧ t_far ≤ 4) (hB : ∀ i k, k < 5 → -8000000 ≤ t_ce (i * 6 + k) ∧ t_ce (i * 6 + k) ≤ 8000000) (hC : ∀ i, -100000000000 ≤ t_ce (i * 6 + 5) ∧ t_ce (i * 6 + 5) ≤ 100000000000) (hti : ∀ j, 0 ≤ t_ti j ∧ t_ti j ≤ 2) : CR l yX5_brokenLine wsX5_brokenLine ({ frames := 2, cells := 0, slots := 0, locals := 46 }) D cA [.ref (t 0)] (wT cA t (t_ce) (t_ti) (t_lo) (t_hi) (t_gl) (t_sh) (((t_nc : Nat) : Int)) (((t_nl : Nat) : Int)) (t_bel) (t_far)) (fun ov => ov = some (iv (firstZ (brokB t_ce t_ti t_far) t_nl))) := by
  refine CR.mk (cc := cX5_brokenLine) (maxL := 3) (ret := (some .int)) (by decide +kernel) rfl (Nat.le_of_ble_eq_true rfl) ?_
  intro p_ e_ s_ m_ b_ me_ c_ F
  have hV := @IR_P D s_
  have iX5 : ∀ w ∈ u_ws RX5 TX5 10, w ∈ wsX5_brokenLine := by decide +kernel
  refine g_lsub ([(0, .ref (t 0))]) [0] rfl ?_
  refine g_iconst F dX5_brokenLine_0 ?_
  refine g_istore_n F ([(1, iv (0)), (0, .ref (t 0))]) rfl rfl (by decide) dX5_brokenLine_1 ?_
  have lp2 : ∀ (n : Nat) (i : Nat) (hi : i ≤ t_nl) (hj : ∀ j, j < i → brokB t_ce t_ti t_far j = false), t_nl - i < n → GW p_ l e_ (headSpec wsX5_brokenLine ({ frames := 2, cells := 0, slots := 0, locals := 46 })).room s_ m_ ([.ref (t 0)]).toArray b_ me_ c_ (MQ b_ (Qr (fun ov => ov = some (iv (firstZ (brokB t_ce t_ti t_far) t_nl)))) ([.ref (t 0)]).toArray s_ 0 0 (fun _ => False)) (IR D s_) 3 0 0 (wT cA t (t_ce) (t_ti) (t_lo) (t_hi) (t_gl) (t_sh) (((t_nc : Nat) : Int)) (((t_nl : Nat) : Int)) (t_bel) (t_far)) ([(0, .ref (t 0)), (1, iv (((i : Nat) : Int)))]) [] 2 := by
    intro n; induction n with
    | zero => intro i; intros; omega
    | succ n ih2 =>
      intro i hi hj hmu2
      have hsr := sideZ_rng t_ce t_far i
      refine g_iload_n F 1 rfl rfl dX5_brokenLine_2 ?_
      refine g_aload_n F 0 rfl rfl dX5_brokenLine_3 ?_
      refine g_get F hV iX5 0 rfl rfl 7 (by decide) (List.mem_of_getElem? (i := 1) rfl) rfl dX5_brokenLine_4 ?_
      refine g_icmp_ge F (tgt := 55) dX5_brokenLine_7 (by decide) ⟨by omega, by omega⟩ ⟨by omega, by omega⟩ (fun c_1 => ?_) (fun c_1 => ?_)
      · skip
        refine g_iconst F dX5_brokenLine_55 ?_
        exact g_zretR F rfl rfl (congrArg (fun z => some (iv z)) (show (-1 : Int) = firstZ (brokB t_ce t_ti t_far) t_nl by exact (firstZ_none (fun j h => hj j (by omega))).symm)) dX5_brokenLine_56
      · skip
        refine g_aload_n F 0 rfl rfl dX5_brokenLine_10 ?_
        refine g_get F hV iX5 0 rfl rfl 1 (by decide) (List.mem_of_getElem? (i := 2) rfl) rfl dX5_brokenLine_11 ?_
        refine g_iload_n F 1 rfl rfl dX5_brokenLine_14 ?_
        have r_2 := hti (i)
        refine g_iald F hV 2 rfl (i) (by omega) (by omega) (by decide) dX5_brokenLine_15 ?_
        refine g_if_ne F (tgt := 23) dX5_brokenLine_16 (by decide) ⟨by omega, by omega⟩ (fun c_3 => ?_) (fun c_3 => ?_)
        · skip
          refine g_aload_n F 0 rfl rfl dX5_brokenLine_23 ?_
          refine g_iload_n F 1 rfl rfl dX5_brokenLine_24 ?_
          refine g_callRV F hV (As := [iv (((i : Nat) : Int))]) (rest := []) (kX5_sideOf l D cA t t_ce t_ti t_lo t_hi t_gl t_sh t_nc t_nl t_bel t_far i (by omega) (hf) (hB) (hC)) (cwV 1 F.2.2.2.2.1 gX5_brokenLine_X5_sideOf rfl rfl rfl (by decide +kernel) ⟨Nat.le_of_ble_eq_true rfl, Nat.le_of_ble_eq_true rfl⟩) rfl rfl (q0 := 0) rfl [0, 1, 2, 3, 4, 5, 6] rfl rfl rfl (Nat.le_of_ble_eq_true rfl) ⟨Nat.le_of_ble_eq_true rfl, Nat.le_of_ble_eq_true rfl⟩ dX5_brokenLine_25 (fun v hv => ?_)
          subst hv
          refine g_eq (st' := [iv (sideZ t_ce t_far i)]) rfl rfl rfl ?_
          refine g_istore_n F ([(2, iv (sideZ t_ce t_far i)), (0, .ref (t 0)), (1, iv (((i : Nat) : Int)))]) rfl rfl (by decide) dX5_brokenLine_28 ?_
          refine g_iload_n F 0 rfl rfl dX5_brokenLine_29 ?_
          refine g_if_lt F (tgt := 47) dX5_brokenLine_30 (by decide) ⟨by omega, by omega⟩ (fun c_4 => ?_) (fun c_4 => ?_)
          · skip
            refine g_iload_n F 2 rfl rfl dX5_brokenLine_47 ?_
            exact g_zretR F rfl rfl (congrArg (fun z => some (iv z)) (show (((i : Nat) : Int) : Int) = firstZ (brokB t_ce t_ti t_far) t_nl by exact (firstZ_at hj (by unfold brokB; simp only [decide_eq_true_eq]; omega) (by omega)).symm)) dX5_brokenLine_48
          · skip
            refine g_iload_n F 0 rfl rfl dX5_brokenLine_33 ?_
            refine g_if_le F (tgt := 49) dX5_brokenLine_34 (by decide) ⟨by omega, by omega⟩ (fun c_5 => ?_) (fun c_5 => ?_)
            · skip
              refine g_iinc F 2 rfl ([(1, iv ((((i : Nat) : Int)) + 1)), (2, iv (sideZ t_ce t_far i)), (0, .ref (t 0))]) rfl (by decide) dX5_brokenLine_49 ?_
              refine g_goto F (tgt := 2) dX5_brokenLine_52 (by decide) ?_
              refine g_lsub ([(0, .ref (t 0)), (1, iv ((((i : Nat) : Int)) + 1))]) [2, 0] rfl ?_
              exact ih2 (i + 1) (by omega) (fun j h => by rcases (show j < i ∨ j = i by omega) with q | q; exact hj j q; subst q; unfold brokB; simp only [decide_eq_false_iff_not]; omega) (by omega)
            · skip
              refine g_aload_n F 1 rfl rfl dX5_brokenLine_37 ?_
              refine g_get F hV iX5 0 rfl rfl 1 (by decide) (List.mem_of_getElem? (i := 2) rfl) rfl dX5_brokenLine_38 ?_
              refine g_iload_n F 2 rfl rfl dX5_brokenLine_41 ?_
              have r_6 := hti (i)
              refine g_iald F hV 2 rfl (i) (by omega) (by omega) (by decide) dX5_brokenLine_42 ?_
              refine g_iconst F dX5_brokenLine_43 ?_
              refine g_icmp_ne F (tgt := 49) dX5_brokenLine_44 (by decide) ⟨by omega, by omega⟩ ⟨by decide, by decide⟩ (fun c_7 => ?_) (fun c_7 => ?_)
              · skip
                refine g_iinc F 2 rfl ([(1, iv ((((i : Nat) : Int)) + 1)), (2, iv (sideZ t_ce t_far i)), (0, .ref (t 0))]) rfl (by decide) dX5_brokenLine_49 ?_
                refine g_goto F (tgt := 2) dX5_brokenLine_52 (by decide) ?_
                refine g_lsub ([(0, .ref (t 0)), (1, iv ((((i : Nat) : Int)) + 1))]) [2, 0] rfl ?_
                exact ih2 (i + 1) (by omega) (fun j h => by rcases (show j < i ∨ j = i by omega) with q | q; exact hj j q; subst q; unfold brokB; simp only [decide_eq_false_iff_not]; omega) (by omega)
              · skip
                refine g_iload_n F 2 rfl rfl dX5_brokenLine_47 ?_
                exact g_zretR F rfl rfl (congrArg (fun z => some (iv z)) (show (((i : Nat) : Int) : Int) = firstZ (brokB t_ce t_ti t_far) t_nl by exact (firstZ_at hj (by unfold brokB; simp only [decide_eq_true_eq]; omega) (by omega)).symm)) dX5_brokenLine_48
        · skip
          refine g_iconst F dX5_brokenLine_19 ?_
          refine g_goto F (tgt := 28) dX5_brokenLine_20 (by decide) ?_
          refine g_istore_n F ([(2, iv (0)), (0, .ref (t 0)), (1, iv (((i : Nat) : Int)))]) rfl rfl (by decide) dX5_brokenLine_28 ?_
          refine g_iload_n F 0 rfl rfl dX5_brokenLine_29 ?_
          refine g_if_lt F (tgt := 47) dX5_brokenLine_30 (by decide) ⟨by decide, by decide⟩ (fun c_8 => ?_) (fun c_8 => ?_)
          · skip
            exfalso; omega
          · skip
            refine g_iload_n F 0 rfl rfl dX5_brokenLine_33 ?_
            refine g_if_le F (tgt := 49) dX5_brokenLine_34 (by decide) ⟨by decide, by decide⟩ (fun c_9 => ?_) (fun c_9 => ?_)
            · skip
              refine g_iinc F 2 rfl ([(1, iv ((((i : Nat) : Int)) + 1)), (2, iv (0)), (0, .ref (t 0))]) rfl (by decide) dX5_brokenLine_49 ?_
              refine g_goto F (tgt := 2) dX5_brokenLine_52 (by decide) ?_
              refine g_lsub ([(0, .ref (t 0)), (1, iv ((((i : Nat) : Int)) + 1))]) [2, 0] rfl ?_
              exact ih2 (i + 1) (by omega) (fun j h => by rcases (show j < i ∨ j = i by omega) with q | q; exact hj j q; subst q; unfold brokB; simp only [decide_eq_false_iff_not]; omega) (by omega)
            · skip
              exfalso; omega
  refine g_lsub ([(0, .ref (t 0)), (1, iv (0))]) [1, 0] rfl ?_
  exact lp2 (_ + 1) 0 (by omega) (fun j h => absurd h (Nat.not_lt_zero j)) (Nat.lt_succ_self _)

set_option maxHeartbeats 4000000 in
set_option maxRecDepth 100000 in
theorem kX5_isCheaper (l : Launch) (D : va_G) (cA : Nat → ClassId) (t : Nat → Nat) (t_ce : Nat → Int) (t_ti : Nat → Int) (t_lo : Nat → Int) (t_hi : Nat → Int) (t_gl : Nat → Int) (t_sh : Nat → Int) (t_nc : Nat) (t_nl : Nat) (t_bel : Int) (t_far : Int) (line : Nat) (k : Nat) (o : Nat) (hln : line < 18) (hk : k < 5) (ho : o < 5) (hnc : t_nc ≤ 5) (hB : ∀ i k, k < 5 → -8000000 ≤ t_ce (i * 6 + k) ∧ t_ce (i * 6 + k) ≤ 8000000) : CR l yX5_isCheaper wsX5_isCheaper ({ frames := 1, cells := 0, slots := 0, locals := 24 }) D cA [.ref (t 0), iv (((line : Nat) : Int)), iv (((k : Nat) : Int)), iv (((o : Nat) : Int))] (wT cA t (t_ce) (t_ti) (t_lo) (t_hi) (t_gl) (t_sh) (((t_nc : Nat) : Int)) (((t_nl : Nat) : Int)) (t_bel) (t_far)) (fun ov => ov = some (iv (if ordZ t_ce line k o (t_nc + 1) < 0 then 1 else 0))) := by
  refine CR.mk (cc := cX5_isCheaper) (maxL := 10) (ret := (some .boolean)) (by decide +kernel) rfl (Nat.le_of_ble_eq_true rfl) ?_
  intro p_ e_ s_ m_ b_ me_ c_ F
  have hV := @IR_P D s_
  have iX5 : ∀ w ∈ u_ws RX5 TX5 10, w ∈ wsX5_isCheaper := by decide +kernel
  have hb1 := hB line k hk
  have hb2 := hB line o ho
  refine g_lsub ([(0, .ref (t 0)), (1, iv (((line : Nat) : Int))), (2, iv (((k : Nat) : Int))), (3, iv (((o : Nat) : Int)))]) [0, 1, 2, 3] rfl ?_
  refine g_aload_n F 0 rfl rfl dX5_isCheaper_0 ?_
  refine g_get F hV iX5 0 rfl rfl 0 (by decide) (List.mem_of_getElem? (i := 1) rfl) rfl dX5_isCheaper_1 ?_
  refine g_iload_n F 1 rfl rfl dX5_isCheaper_4 ?_
  refine g_bipush F dX5_isCheaper_5 (by decide) ?_
  refine g_imul F dX5_isCheaper_7 ?_
  refine g_iload_n F 2 rfl rfl dX5_isCheaper_8 ?_
  refine g_iadd F dX5_isCheaper_9 ?_
  refine g_lald F hV 1 rfl ((line * 6) + k) (by omega) (by omega) (by decide) dX5_isCheaper_10 ?_
  refine g_mabs F ⟨by omega, by omega⟩ (List.mem_of_getElem? (i := 2) rfl) (List.mem_of_getElem? (i := 3) rfl) (List.mem_of_getElem? (i := 4) rfl) (List.mem_of_getElem? (i := 5) rfl) (Nat.le_of_ble_eq_true rfl) (Nat.le_of_ble_eq_true rfl) (Nat.le_of_ble_eq_true rfl) (Nat.le_of_ble_eq_true rfl) dX5_isCheaper_11 ?_
  refine g_lstore F ([(4, jv ((((t_ce ((line * 6) + k)).natAbs : Nat) : Int))), (0, .ref (t 0)), (1, iv (((line : Nat) : Int))), (2, iv (((k : Nat) : Int))), (3, iv (((o : Nat) : Int)))]) rfl (by decide) dX5_isCheaper_14 ?_
  refine g_aload_n F 1 rfl rfl dX5_isCheaper_16 ?_
  refine g_get F hV iX5 0 rfl rfl 0 (by decide) (List.mem_of_getElem? (i := 1) rfl) rfl dX5_isCheaper_17 ?_
  refine g_iload_n F 2 rfl rfl dX5_isCheaper_20 ?_
  refine g_bipush F dX5_isCheaper_21 (by decide) ?_
  refine g_imul F dX5_isCheaper_23 ?_
  refine g_iload_n F 4 rfl rfl dX5_isCheaper_24 ?_
  refine g_iadd F dX5_isCheaper_25 ?_
  refine g_lald F hV 1 rfl ((line * 6) + o) (by omega) (by omega) (by decide) dX5_isCheaper_26 ?_
  refine g_mabs F ⟨by omega, by omega⟩ (List.mem_of_getElem? (i := 2) rfl) (List.mem_of_getElem? (i := 3) rfl) (List.mem_of_getElem? (i := 4) rfl) (List.mem_of_getElem? (i := 5) rfl) (Nat.le_of_ble_eq_true rfl) (Nat.le_of_ble_eq_true rfl) (Nat.le_of_ble_eq_true rfl) (Nat.le_of_ble_eq_true rfl) dX5_isCheaper_27 ?_
  refine g_lstore F ([(6, jv ((((t_ce ((line * 6) + o)).natAbs : Nat) : Int))), (4, jv ((((t_ce ((line * 6) + k)).natAbs : Nat) : Int))), (0, .ref (t 0)), (1, iv (((line : Nat) : Int))), (2, iv (((k : Nat) : Int))), (3, iv (((o : Nat) : Int)))]) rfl (by decide) dX5_isCheaper_30 ?_
  refine g_iconst F dX5_isCheaper_32 ?_
  refine g_istore F ([(8, iv (0)), (6, jv ((((t_ce ((line * 6) + o)).natAbs : Nat) : Int))), (4, jv ((((t_ce ((line * 6) + k)).natAbs : Nat) : Int))), (0, .ref (t 0)), (1, iv (((line : Nat) : Int))), (2, iv (((k : Nat) : Int))), (3, iv (((o : Nat) : Int)))]) rfl (by decide) dX5_isCheaper_33 ?_
  refine g_iconst F dX5_isCheaper_35 ?_
  refine g_istore F ([(9, iv (0)), (8, iv (0)), (6, jv ((((t_ce ((line * 6) + o)).natAbs : Nat) : Int))), (4, jv ((((t_ce ((line * 6) + k)).natAbs : Nat) : Int))), (0, .ref (t 0)), (1, iv (((line : Nat) : Int))), (2, iv (((k : Nat) : Int))), (3, iv (((o : Nat) : Int)))]) rfl (by decide) dX5_isCheaper_36 ?_
  have lp38 : ∀ (n : Nat) (i : Nat) (x : Int) (hi : i ≤ t_nc + 1) (hx : x = ordZ t_ce line k o i), t_nc + 1 - i < n → GW p_ l e_ (headSpec wsX5_isCheaper ({ frames := 1, cells := 0, slots := 0, locals := 24 })).room s_ m_ ([.ref (t 0), iv (((line : Nat) : Int)), iv (((k : Nat) : Int)), iv (((o : Nat) : Int))]).toArray b_ me_ c_ (MQ b_ (Qr (fun ov => ov = some (iv (if ordZ t_ce line k o (t_nc + 1) < 0 then 1 else 0)))) ([.ref (t 0), iv (((line : Nat) : Int)), iv (((k : Nat) : Int)), iv (((o : Nat) : Int))]).toArray s_ 0 0 (fun _ => False)) (IR D s_) 10 0 0 (wT cA t (t_ce) (t_ti) (t_lo) (t_hi) (t_gl) (t_sh) (((t_nc : Nat) : Int)) (((t_nl : Nat) : Int)) (t_bel) (t_far)) ([(0, .ref (t 0)), (1, iv (((line : Nat) : Int))), (2, iv (((k : Nat) : Int))), (3, iv (((o : Nat) : Int))), (4, jv ((((t_ce ((line * 6) + k)).natAbs : Nat) : Int))), (6, jv ((((t_ce ((line * 6) + o)).natAbs : Nat) : Int))), (8, iv (x)), (9, iv (((i : Nat) : Int)))]) [] 38 := by
    intro n; induction n with
    | zero => intro i x; intros; omega
    | succ n ih38 =>
      intro i x hi hx hmu38
      have hor := ordZ_rng t_ce line k o i
      have hb3 := hB i k hk
      have hb4 := hB i o ho
      refine g_iload F 7 rfl dX5_isCheaper_38 ?_
      refine g_aload_n F 0 rfl rfl dX5_isCheaper_40 ?_
      refine g_get F hV iX5 0 rfl rfl 6 (by decide) (List.mem_of_getElem? (i := 6) rfl) rfl dX5_isCheaper_41 ?_
      refine g_icmp_gt F (tgt := 93) dX5_isCheaper_44 (by decide) ⟨by omega, by omega⟩ ⟨by omega, by omega⟩ (fun c_1 => ?_) (fun c_1 => ?_)
      · skip
        refine g_iload F 6 rfl dX5_isCheaper_93 ?_
        refine g_if_ge F (tgt := 102) dX5_isCheaper_95 (by decide) ⟨by omega, by omega⟩ (fun c_2 => ?_) (fun c_2 => ?_)
        · skip
          refine g_iconst F dX5_isCheaper_102 ?_
          exact g_zretR F rfl (nar_01 (Or.inl rfl)) (congrArg (fun z => some (iv z)) (show (0 : Int) = if ordZ t_ce line k o (t_nc + 1) < 0 then 1 else 0 by (have hz : ordZ t_ce line k o (t_nc + 1) = x := by first | (rw [hx, show t_nc + 1 = i by omega]; done) | (rw [hx]; exact lexZ_far (by unfold ordZ at hx; omega) hi)); rw [hz]; first | (rw [if_neg (by omega)]; done) | (rw [if_pos (by omega)]; done))) dX5_isCheaper_103
        · skip
          refine g_iconst F dX5_isCheaper_98 ?_
          refine g_goto F (tgt := 103) dX5_isCheaper_99 (by decide) ?_
          exact g_zretR F rfl (nar_01 (Or.inr rfl)) (congrArg (fun z => some (iv z)) (show (1 : Int) = if ordZ t_ce line k o (t_nc + 1) < 0 then 1 else 0 by (have hz : ordZ t_ce line k o (t_nc + 1) = x := by first | (rw [hx, show t_nc + 1 = i by omega]; done) | (rw [hx]; exact lexZ_far (by unfold ordZ at hx; omega) hi)); rw [hz]; first | (rw [if_neg (by omega)]; done) | (rw [if_pos (by omega)]; done))) dX5_isCheaper_103
      · skip
        refine g_iload F 6 rfl dX5_isCheaper_47 ?_
        refine g_if_ne F (tgt := 93) dX5_isCheaper_49 (by decide) ⟨by omega, by omega⟩ (fun c_3 => ?_) (fun c_3 => ?_)
        · skip
          refine g_iload F 6 rfl dX5_isCheaper_93 ?_
          refine g_if_ge F (tgt := 102) dX5_isCheaper_95 (by decide) ⟨by omega, by omega⟩ (fun c_4 => ?_) (fun c_4 => ?_)
          · skip
            refine g_iconst F dX5_isCheaper_102 ?_
            exact g_zretR F rfl (nar_01 (Or.inl rfl)) (congrArg (fun z => some (iv z)) (show (0 : Int) = if ordZ t_ce line k o (t_nc + 1) < 0 then 1 else 0 by (have hz : ordZ t_ce line k o (t_nc + 1) = x := by first | (rw [hx, show t_nc + 1 = i by omega]; done) | (rw [hx]; exact lexZ_far (by unfold ordZ at hx; omega) hi)); rw [hz]; first | (rw [if_neg (by omega)]; done) | (rw [if_pos (by omega)]; done))) dX5_isCheaper_103
          · skip
            refine g_iconst F dX5_isCheaper_98 ?_
            refine g_goto F (tgt := 103) dX5_isCheaper_99 (by decide) ?_
            exact g_zretR F rfl (nar_01 (Or.inr rfl)) (congrArg (fun z => some (iv z)) (show (1 : Int) = if ordZ t_ce line k o (t_nc + 1) < 0 then 1 else 0 by (have hz : ordZ t_ce line k o (t_nc + 1) = x := by first | (rw [hx, show t_nc + 1 = i by omega]; done) | (rw [hx]; exact lexZ_far (by unfold ordZ at hx; omega) hi)); rw [hz]; first | (rw [if_neg (by omega)]; done) | (rw [if_pos (by omega)]; done))) dX5_isCheaper_103
        · skip
          refine g_aload_n F 0 rfl rfl dX5_isCheaper_52 ?_
          refine g_get F hV iX5 0 rfl rfl 0 (by decide) (List.mem_of_getElem? (i := 1) rfl) rfl dX5_isCheaper_53 ?_
          refine g_iload F 7 rfl dX5_isCheaper_56 ?_
          refine g_bipush F dX5_isCheaper_58 (by decide) ?_
          refine g_imul F dX5_isCheaper_60 ?_
          refine g_iload_n F 2 rfl rfl dX5_isCheaper_61 ?_
          refine g_iadd F dX5_isCheaper_62 ?_
          refine g_lald F hV 1 rfl ((i * 6) + k) (by omega) (by omega) (by decide) dX5_isCheaper_63 ?_
          refine g_lload F 5 rfl dX5_isCheaper_64 ?_
          refine g_lmul F dX5_isCheaper_66 ?_
          refine g_aload_n F 0 rfl rfl dX5_isCheaper_67 ?_
          refine g_get F hV iX5 0 rfl rfl 0 (by decide) (List.mem_of_getElem? (i := 1) rfl) rfl dX5_isCheaper_68 ?_
          refine g_iload F 7 rfl dX5_isCheaper_71 ?_
          refine g_bipush F dX5_isCheaper_73 (by decide) ?_
          refine g_imul F dX5_isCheaper_75 ?_
          refine g_iload_n F 3 rfl rfl dX5_isCheaper_76 ?_
          refine g_iadd F dX5_isCheaper_77 ?_
          refine g_lald F hV 1 rfl ((i * 6) + o) (by omega) (by omega) (by decide) dX5_isCheaper_78 ?_
          refine g_lload F 4 rfl dX5_isCheaper_79 ?_
          refine g_lmul F dX5_isCheaper_81 ?_
          refine g_callRS F hV (As := [jv ((t_ce ((i * 6) + k)) * ((((t_ce ((line * 6) + o)).natAbs : Nat) : Int))), jv ((t_ce ((i * 6) + o)) * ((((t_ce ((line * 6) + k)).natAbs : Nat) : Int)))]) (rest := []) (kJ13_compare_74951 l D cA ((t_ce ((i * 6) + k)) * ((((t_ce ((line * 6) + o)).natAbs : Nat) : Int))) ((t_ce ((i * 6) + o)) * ((((t_ce ((line * 6) + k)).natAbs : Nat) : Int))) (mul_64 (by omega) (by omega)) (mul_64 (by omega) (by omega))) (va_cwS 2 F.2.2.2.2.1 gX5_isCheaper_J13_compare_74951 rfl rfl rfl (by decide +kernel) ⟨Nat.le_of_ble_eq_true rfl, Nat.le_of_ble_eq_true rfl⟩) [] rfl rfl rfl (Nat.le_of_ble_eq_true rfl) ⟨Nat.le_of_ble_eq_true rfl, Nat.le_of_ble_eq_true rfl⟩ dX5_isCheaper_82 (fun v hv => ?_)
          subst hv
          refine g_eq (st' := [iv (cmpZ ((t_ce ((i * 6) + k)) * ((((t_ce ((line * 6) + o)).natAbs : Nat) : Int))) ((t_ce ((i * 6) + o)) * ((((t_ce ((line * 6) + k)).natAbs : Nat) : Int))))]) rfl rfl rfl ?_
          refine g_istore F ([(8, iv (cmpZ ((t_ce ((i * 6) + k)) * ((((t_ce ((line * 6) + o)).natAbs : Nat) : Int))) ((t_ce ((i * 6) + o)) * ((((t_ce ((line * 6) + k)).natAbs : Nat) : Int))))), (0, .ref (t 0)), (1, iv (((line : Nat) : Int))), (2, iv (((k : Nat) : Int))), (3, iv (((o : Nat) : Int))), (4, jv ((((t_ce ((line * 6) + k)).natAbs : Nat) : Int))), (6, jv ((((t_ce ((line * 6) + o)).natAbs : Nat) : Int))), (9, iv (((i : Nat) : Int)))]) rfl (by decide) dX5_isCheaper_85 ?_
          refine g_iinc F 7 rfl ([(9, iv ((((i : Nat) : Int)) + 1)), (8, iv (cmpZ ((t_ce ((i * 6) + k)) * ((((t_ce ((line * 6) + o)).natAbs : Nat) : Int))) ((t_ce ((i * 6) + o)) * ((((t_ce ((line * 6) + k)).natAbs : Nat) : Int))))), (0, .ref (t 0)), (1, iv (((line : Nat) : Int))), (2, iv (((k : Nat) : Int))), (3, iv (((o : Nat) : Int))), (4, jv ((((t_ce ((line * 6) + k)).natAbs : Nat) : Int))), (6, jv ((((t_ce ((line * 6) + o)).natAbs : Nat) : Int)))]) rfl (by decide) dX5_isCheaper_87 ?_
          refine g_goto F (tgt := 38) dX5_isCheaper_90 (by decide) ?_
          refine g_lsub ([(0, .ref (t 0)), (1, iv (((line : Nat) : Int))), (2, iv (((k : Nat) : Int))), (3, iv (((o : Nat) : Int))), (4, jv ((((t_ce ((line * 6) + k)).natAbs : Nat) : Int))), (6, jv ((((t_ce ((line * 6) + o)).natAbs : Nat) : Int))), (8, iv (cmpZ ((t_ce ((i * 6) + k)) * ((((t_ce ((line * 6) + o)).natAbs : Nat) : Int))) ((t_ce ((i * 6) + o)) * ((((t_ce ((line * 6) + k)).natAbs : Nat) : Int))))), (9, iv ((((i : Nat) : Int)) + 1))]) [2, 3, 4, 5, 6, 7, 1, 0] rfl ?_
          exact ih38 (i + 1) (cmpZ ((t_ce ((i * 6) + k)) * ((((t_ce ((line * 6) + o)).natAbs : Nat) : Int))) ((t_ce ((i * 6) + o)) * ((((t_ce ((line * 6) + k)).natAbs : Nat) : Int)))) (by omega) (lexZ_succ0 (by rw [hx] at *; first | assumption | omega)).symm (by omega)
  refine g_lsub ([(0, .ref (t 0)), (1, iv (((line : Nat) : Int))), (2, iv (((k : Nat) : Int))), (3, iv (((o : Nat) : Int))), (4, jv ((((t_ce ((line * 6) + k)).natAbs : Nat) : Int))), (6, jv ((((t_ce ((line * 6) + o)).natAbs : Nat) : Int))), (8, iv (0)), (9, iv (0))]) [4, 5, 6, 7, 3, 2, 1, 0] rfl ?_
  exact lp38 (_ + 1) 0 0 (by omega) (rfl) (Nat.lt_succ_self _)

set_option maxHeartbeats 4000000 in
set_option maxRecDepth 100000 in
theorem kX5_cheapestWay (l : Launch) (D : va_G) (cA : Nat → ClassId) (t : Nat → Nat) (t_ce : Nat → Int) (t_ti : Nat → Int) (t_lo : Nat → Int) (t_hi : Nat → Int) (t_gl : Nat → Int) (t_sh : Nat → Int) (t_nc : Nat) (t_nl : Nat) (t_bel : Int) (t_far : Int) (line : Nat) (hln : line < 18) (hnc : t_nc ≤ 5) (hf : -1 ≤ t_far ∧ t_far ≤ 4) (hB : ∀ i k, k < 5 → -8000000 ≤ t_ce (i * 6 + k) ∧ t_ce (i * 6 + k) ≤ 8000000) (hC : ∀ i, -100000000000 ≤ t_ce (i * 6 + 5) ∧ t_ce (i * 6 + 5) ≤ 100000000000) (hsh : ∀ j, 0 ≤ t_sh j ∧ t_sh j ≤ 1) : CR l yX5_cheapestWay wsX5_cheapestWay ({ frames := 2, cells := 0, slots := 0, locals := 53 }) D cA [.ref (t 0), iv (((line : Nat) : Int))] (wT cA t (t_ce) (t_ti) (t_lo) (t_hi) (t_gl) (t_sh) (((t_nc : Nat) : Int)) (((t_nl : Nat) : Int)) (t_bel) (t_far)) (fun ov => ov = some (iv (cheapZ t_ce t_sh t_nc line (sideZ t_ce t_far line) t_nc))) := by
  refine CR.mk (cc := cX5_cheapestWay) (maxL := 5) (ret := (some .int)) (by decide +kernel) rfl (Nat.le_of_ble_eq_true rfl) ?_
  intro p_ e_ s_ m_ b_ me_ c_ F
  have hV := @IR_P D s_
  have iX5 : ∀ w ∈ u_ws RX5 TX5 10, w ∈ wsX5_cheapestWay := by decide +kernel
  have hsr := sideZ_rng t_ce t_far line
  have hcr := cheapZ_rng t_ce t_sh t_nc line (sideZ t_ce t_far line)
  refine g_lsub ([(0, .ref (t 0)), (1, iv (((line : Nat) : Int)))]) [0, 1] rfl ?_
  refine g_aload_n F 0 rfl rfl dX5_cheapestWay_0 ?_
  refine g_iload_n F 1 rfl rfl dX5_cheapestWay_1 ?_
  refine g_callRV F hV (As := [iv (((line : Nat) : Int))]) (rest := []) (kX5_sideOf l D cA t t_ce t_ti t_lo t_hi t_gl t_sh t_nc t_nl t_bel t_far line (hln) (hf) (hB) (hC)) (cwV 1 F.2.2.2.2.1 gX5_cheapestWay_X5_sideOf rfl rfl rfl (by decide +kernel) ⟨Nat.le_of_ble_eq_true rfl, Nat.le_of_ble_eq_true rfl⟩) rfl rfl (q0 := 0) rfl [0, 1, 2, 3, 4, 5, 6] rfl rfl rfl (Nat.le_of_ble_eq_true rfl) ⟨Nat.le_of_ble_eq_true rfl, Nat.le_of_ble_eq_true rfl⟩ dX5_cheapestWay_2 (fun v hv => ?_)
  subst hv
  refine g_eq (st' := [iv (sideZ t_ce t_far line)]) rfl rfl rfl ?_
  refine g_istore_n F ([(2, iv (sideZ t_ce t_far line)), (0, .ref (t 0)), (1, iv (((line : Nat) : Int)))]) rfl rfl (by decide) dX5_cheapestWay_5 ?_
  refine g_iconst F dX5_cheapestWay_6 ?_
  refine g_istore_n F ([(3, iv (-1)), (2, iv (sideZ t_ce t_far line)), (0, .ref (t 0)), (1, iv (((line : Nat) : Int)))]) rfl rfl (by decide) dX5_cheapestWay_7 ?_
  refine g_iconst F dX5_cheapestWay_8 ?_
  refine g_istore F ([(4, iv (0)), (3, iv (-1)), (2, iv (sideZ t_ce t_far line)), (0, .ref (t 0)), (1, iv (((line : Nat) : Int)))]) rfl (by decide) dX5_cheapestWay_9 ?_
  have lp11 : ∀ (n : Nat) (k : Nat) (x : Int) (hk : k ≤ t_nc) (hx : x = cheapZ t_ce t_sh t_nc line (sideZ t_ce t_far line) k), t_nc - k < n → GW p_ l e_ (headSpec wsX5_cheapestWay ({ frames := 2, cells := 0, slots := 0, locals := 53 })).room s_ m_ ([.ref (t 0), iv (((line : Nat) : Int))]).toArray b_ me_ c_ (MQ b_ (Qr (fun ov => ov = some (iv (cheapZ t_ce t_sh t_nc line (sideZ t_ce t_far line) t_nc)))) ([.ref (t 0), iv (((line : Nat) : Int))]).toArray s_ 0 0 (fun _ => False)) (IR D s_) 5 0 0 (wT cA t (t_ce) (t_ti) (t_lo) (t_hi) (t_gl) (t_sh) (((t_nc : Nat) : Int)) (((t_nl : Nat) : Int)) (t_bel) (t_far)) ([(0, .ref (t 0)), (1, iv (((line : Nat) : Int))), (2, iv (sideZ t_ce t_far line)), (3, iv (x)), (4, iv (((k : Nat) : Int)))]) [] 11 := by
    intro n; induction n with
    | zero => intro k x; intros; omega
    | succ n ih11 =>
      intro k x hk hx hmu11
      have hcr1 := hcr k
      have hb1 : k < 5 → _ := hB line k
      refine g_iload F 4 rfl dX5_cheapestWay_11 ?_
      refine g_aload_n F 0 rfl rfl dX5_cheapestWay_13 ?_
      refine g_get F hV iX5 0 rfl rfl 6 (by decide) (List.mem_of_getElem? (i := 1) rfl) rfl dX5_cheapestWay_14 ?_
      refine g_icmp_ge F (tgt := 74) dX5_cheapestWay_17 (by decide) ⟨by omega, by omega⟩ ⟨by omega, by omega⟩ (fun c_1 => ?_) (fun c_1 => ?_)
      · skip
        refine g_iload_n F 3 rfl rfl dX5_cheapestWay_74 ?_
        exact g_zretR F rfl rfl (congrArg (fun z => some (iv z)) (show (x : Int) = cheapZ t_ce t_sh t_nc line (sideZ t_ce t_far line) t_nc by rw [hx, show k = t_nc by omega])) dX5_cheapestWay_75
      · skip
        refine g_aload_n F 0 rfl rfl dX5_cheapestWay_20 ?_
        refine g_get F hV iX5 0 rfl rfl 5 (by decide) (List.mem_of_getElem? (i := 2) rfl) rfl dX5_cheapestWay_21 ?_
        refine g_iload F 4 rfl dX5_cheapestWay_24 ?_
        have r_2 := hsh (k)
        refine g_zald F hV 6 rfl (k) (by omega) (by omega) (by decide) dX5_cheapestWay_26 ?_
        refine g_if_ne F (tgt := 68) dX5_cheapestWay_27 (by decide) ⟨by omega, by omega⟩ (fun c_3 => ?_) (fun c_3 => ?_)
        · skip
          refine g_iinc F 4 rfl ([(4, iv ((((k : Nat) : Int)) + 1)), (0, .ref (t 0)), (1, iv (((line : Nat) : Int))), (2, iv (sideZ t_ce t_far line)), (3, iv (x))]) rfl (by decide) dX5_cheapestWay_68 ?_
          refine g_goto F (tgt := 11) dX5_cheapestWay_71 (by decide) ?_
          refine g_lsub ([(0, .ref (t 0)), (1, iv (((line : Nat) : Int))), (2, iv (sideZ t_ce t_far line)), (3, iv (x)), (4, iv ((((k : Nat) : Int)) + 1))]) [1, 2, 3, 4, 0] rfl ?_
          exact ih11 (k + 1) x (by omega) (by refine hx.trans (cheapZ_no ?_).symm; rw [← hx]; rintro ⟨q1, q2, q3⟩; first | omega | (rcases q3 with q3 | q3; omega; rw [Int.toNat_natCast] at q3; exact absurd q3 (by assumption))) (by omega)
        · skip
          refine g_aload_n F 0 rfl rfl dX5_cheapestWay_30 ?_
          refine g_get F hV iX5 0 rfl rfl 0 (by decide) (List.mem_of_getElem? (i := 3) rfl) rfl dX5_cheapestWay_31 ?_
          refine g_iload_n F 1 rfl rfl dX5_cheapestWay_34 ?_
          refine g_bipush F dX5_cheapestWay_35 (by decide) ?_
          refine g_imul F dX5_cheapestWay_37 ?_
          refine g_iload F 4 rfl dX5_cheapestWay_38 ?_
          refine g_iadd F dX5_cheapestWay_40 ?_
          have hb2 := hB line k (by omega)
          refine g_lald F hV 1 rfl ((line * 6) + k) (by omega) (by omega) (by decide) dX5_cheapestWay_41 ?_
          refine g_iload_n F 2 rfl rfl dX5_cheapestWay_42 ?_
          refine g_i2l F ⟨by omega, by omega⟩ dX5_cheapestWay_43 ?_
          refine g_lmul F dX5_cheapestWay_44 ?_
          refine g_lconst F (z := 0) dX5_cheapestWay_45 (by decide) ?_
          refine g_lcmp_ge F (tgt := 68) dX5_cheapestWay_46 dX5_cheapestWay_47 (by decide) (mul_64 (by omega) (by omega)) ⟨by decide, by decide⟩ (fun c_4 => ?_) (fun c_4 => ?_)
          · skip
            refine g_iinc F 4 rfl ([(4, iv ((((k : Nat) : Int)) + 1)), (0, .ref (t 0)), (1, iv (((line : Nat) : Int))), (2, iv (sideZ t_ce t_far line)), (3, iv (x))]) rfl (by decide) dX5_cheapestWay_68 ?_
            refine g_goto F (tgt := 11) dX5_cheapestWay_71 (by decide) ?_
            refine g_lsub ([(0, .ref (t 0)), (1, iv (((line : Nat) : Int))), (2, iv (sideZ t_ce t_far line)), (3, iv (x)), (4, iv ((((k : Nat) : Int)) + 1))]) [1, 2, 3, 4, 0] rfl ?_
            exact ih11 (k + 1) x (by omega) (by refine hx.trans (cheapZ_no ?_).symm; rw [← hx]; rintro ⟨q1, q2, q3⟩; first | omega | (rcases q3 with q3 | q3; omega; rw [Int.toNat_natCast] at q3; exact absurd q3 (by assumption))) (by omega)
          · skip
            refine g_iload_n F 3 rfl rfl dX5_cheapestWay_50 ?_
            refine g_if_lt F (tgt := 65) dX5_cheapestWay_51 (by decide) ⟨by omega, by omega⟩ (fun c_5 => ?_) (fun c_5 => ?_)
            · skip
              refine g_iload F 4 rfl dX5_cheapestWay_65 ?_
              refine g_istore_n F ([(3, iv (((k : Nat) : Int))), (0, .ref (t 0)), (1, iv (((line : Nat) : Int))), (2, iv (sideZ t_ce t_far line)), (4, iv (((k : Nat) : Int)))]) rfl rfl (by decide) dX5_cheapestWay_67 ?_
              refine g_iinc F 4 rfl ([(4, iv ((((k : Nat) : Int)) + 1)), (3, iv (((k : Nat) : Int))), (0, .ref (t 0)), (1, iv (((line : Nat) : Int))), (2, iv (sideZ t_ce t_far line))]) rfl (by decide) dX5_cheapestWay_68 ?_
              refine g_goto F (tgt := 11) dX5_cheapestWay_71 (by decide) ?_
              refine g_lsub ([(0, .ref (t 0)), (1, iv (((line : Nat) : Int))), (2, iv (sideZ t_ce t_far line)), (3, iv (((k : Nat) : Int))), (4, iv ((((k : Nat) : Int)) + 1))]) [2, 3, 4, 1, 0] rfl ?_
              exact ih11 (k + 1) (((k : Nat) : Int)) (by omega) (by refine (cheapZ_yes ⟨by omega, by omega, ?_⟩).symm; rw [← hx]; first | exact Or.inl (by omega) | (right; rw [Int.toNat_natCast]; assumption)) (by omega)
            · skip
              obtain ⟨xn, hxn⟩ : ∃ xn : Nat, x = (xn : Int) := ⟨x.toNat, by omega⟩
              subst hxn
              refine g_aload_n F 0 rfl rfl dX5_cheapestWay_54 ?_
              refine g_iload_n F 1 rfl rfl dX5_cheapestWay_55 ?_
              refine g_iload F 4 rfl dX5_cheapestWay_56 ?_
              refine g_iload_n F 3 rfl rfl dX5_cheapestWay_58 ?_
              refine g_callRV F hV (As := [iv (((line : Nat) : Int)), iv (((k : Nat) : Int)), iv (((xn : Nat) : Int))]) (rest := []) (kX5_isCheaper l D cA t t_ce t_ti t_lo t_hi t_gl t_sh t_nc t_nl t_bel t_far line k xn (hln) (by omega) (by omega) (hnc) (hB)) (cwV 3 F.2.2.2.2.1 gX5_cheapestWay_X5_isCheaper rfl rfl rfl (by decide +kernel) ⟨Nat.le_of_ble_eq_true rfl, Nat.le_of_ble_eq_true rfl⟩) rfl rfl (q0 := 0) rfl [0, 1, 2, 3, 4, 5, 6] rfl rfl rfl (Nat.le_of_ble_eq_true rfl) ⟨Nat.le_of_ble_eq_true rfl, Nat.le_of_ble_eq_true rfl⟩ dX5_cheapestWay_59 (fun v hv => ?_)
              subst hv
              refine g_eq (st' := [iv (if ordZ t_ce line k xn (t_nc + 1) < 0 then 1 else 0)]) rfl rfl rfl ?_
              refine g_ifb_eq F (tgt := 68) dX5_cheapestWay_62 (by decide) (fun c_6 => ?_) (fun c_6 => ?_)
              · skip
                refine g_iinc F 4 rfl ([(4, iv ((((k : Nat) : Int)) + 1)), (0, .ref (t 0)), (1, iv (((line : Nat) : Int))), (2, iv (sideZ t_ce t_far line)), (3, iv (((xn : Nat) : Int)))]) rfl (by decide) dX5_cheapestWay_68 ?_
                refine g_goto F (tgt := 11) dX5_cheapestWay_71 (by decide) ?_
                refine g_lsub ([(0, .ref (t 0)), (1, iv (((line : Nat) : Int))), (2, iv (sideZ t_ce t_far line)), (3, iv (((xn : Nat) : Int))), (4, iv ((((k : Nat) : Int)) + 1))]) [1, 2, 3, 4, 0] rfl ?_
                exact ih11 (k + 1) (((xn : Nat) : Int)) (by omega) (by refine hx.trans (cheapZ_no ?_).symm; rw [← hx]; rintro ⟨q1, q2, q3⟩; first | omega | (rcases q3 with q3 | q3; omega; rw [Int.toNat_natCast] at q3; exact absurd q3 (by assumption))) (by omega)
              · skip
                refine g_iload F 4 rfl dX5_cheapestWay_65 ?_
                refine g_istore_n F ([(3, iv (((k : Nat) : Int))), (0, .ref (t 0)), (1, iv (((line : Nat) : Int))), (2, iv (sideZ t_ce t_far line)), (4, iv (((k : Nat) : Int)))]) rfl rfl (by decide) dX5_cheapestWay_67 ?_
                refine g_iinc F 4 rfl ([(4, iv ((((k : Nat) : Int)) + 1)), (3, iv (((k : Nat) : Int))), (0, .ref (t 0)), (1, iv (((line : Nat) : Int))), (2, iv (sideZ t_ce t_far line))]) rfl (by decide) dX5_cheapestWay_68 ?_
                refine g_goto F (tgt := 11) dX5_cheapestWay_71 (by decide) ?_
                refine g_lsub ([(0, .ref (t 0)), (1, iv (((line : Nat) : Int))), (2, iv (sideZ t_ce t_far line)), (3, iv (((k : Nat) : Int))), (4, iv ((((k : Nat) : Int)) + 1))]) [2, 3, 4, 1, 0] rfl ?_
                exact ih11 (k + 1) (((k : Nat) : Int)) (by omega) (by refine (cheapZ_yes ⟨by omega, by omega, ?_⟩).symm; rw [← hx]; first | exact Or.inl (by omega) | (right; rw [Int.toNat_natCast]; assumption)) (by omega)
  refine g_lsub ([(0, .ref (t 0)), (1, iv (((line : Nat) : Int))), (2, iv (sideZ t_ce t_far line)), (3, iv (-1)), (4, iv (0))]) [3, 4, 2, 1, 0] rfl ?_
  exact lp11 (_ + 1) 0 (-1) (by omega) (rfl) (Nat.lt_succ_self _)
