def mostZ (ce : Nat → Int) : Nat → Int
  | 0 => -1
  | k + 1 => if ce k < 0 ∧ (mostZ ce k < 0 ∨ ce k ≤ ce (mostZ ce k).toNat) then (k : Int) else mostZ ce k
theorem mostZ_rng (ce : Nat → Int) : ∀ n, -1 ≤ mostZ ce n ∧ mostZ ce n < n
  | 0 => by simp [mostZ]
  | n + 1 => by
    have := mostZ_rng ce n
    unfold mostZ
    split <;> omega
theorem mostZ_yes {ce : Nat → Int} {k : Nat} (h : ce k < 0 ∧ (mostZ ce k < 0 ∨ ce k ≤ ce (mostZ ce k).toNat)) : mostZ ce (k + 1) = k := by
  show (if _ then _ else _) = _
  rw [if_pos h]
theorem mostZ_no {ce : Nat → Int} {k : Nat} (h : ¬ (ce k < 0 ∧ (mostZ ce k < 0 ∨ ce k ≤ ce (mostZ ce k).toNat))) : mostZ ce (k + 1) = mostZ ce k := by
  show (if _ then _ else _) = _
  rw [if_neg h]
theorem setZ_bit (f : Nat → Int) : ∀ n k, (setZ f n).testBit k = decide (k < n ∧ f k = 1)
  | 0, k => by simp [setZ]
  | n + 1, k => by
    rw [setZ_succ]
    by_cases h : f n = 1
    · rw [if_pos h, Nat.testBit_or, setZ_bit f n k, Nat.shiftLeft_eq, Nat.one_mul, Nat.testBit_two_pow]
      by_cases e : n = k
      · subst e; simp [h]
      · rw [decide_eq_false e, Bool.or_false]
        congr 1
        apply propext
        constructor
        · rintro ⟨a, b⟩; exact ⟨by omega, b⟩
        · rintro ⟨a, b⟩; exact ⟨by omega, b⟩
    · rw [if_neg h, setZ_bit f n k]
      congr 1
      apply propext
      constructor
      · rintro ⟨a, b⟩; exact ⟨by omega, b⟩
      · rintro ⟨a, b⟩
        refine ⟨?_, b⟩
        rcases (show k < n ∨ k = n by omega) with q | q
        · exact q
        · subst q; exact absurd b h
theorem bit_and (x k : Nat) : (x >>> k) &&& 1 = if x.testBit k then 1 else 0 := by
  rw [Nat.and_one_is_mod, Nat.shiftRight_eq_div_pow, Nat.testBit_eq_decide_div_mod_eq]
  by_cases h : x / 2 ^ k % 2 = 1
  · simp [h]
  · simp [h]; omega
def ngZ (ce : Nat → Int) : Nat → Int := fun j => if ce j < 0 then 1 else 0
theorem ng_bit {ce : Nat → Int} {n k : Nat} (h : k < n) : (setZ (ngZ ce) n >>> k) &&& 1 = if ce k < 0 then 1 else 0 := by
  rw [bit_and, setZ_bit]
  unfold ngZ
  by_cases e : ce k < 0
  · simp [e, h]
  · simp [e]
/-- cells, the endless columns held together by a bound, the column m starting from there -/
def farC (ce : Nat → Int) (nc m : Nat) : Nat → Int := fun q => if q % 6 = m then -ce (q / 6 * 6 + m) else if q % 6 < nc ∧ ce (q % 6) < 0 then ce q - ce (q / 6 * 6 + m) else ce q
def farM (ce : Nat → Int) (nc : Nat) (m : Int) (n : Nat) : Nat → Int := if m < 0 then ce else mixZ (farC ce nc m.toNat) ce n
theorem farM_nat (ce : Nat → Int) (nc m n : Nat) : farM ce nc (m : Int) n = mixZ (farC ce nc m) ce n := by
  unfold farM; rw [if_neg (by omega), Int.toNat_natCast]
theorem farM_0 (ce : Nat → Int) (nc : Nat) (m : Int) : farM ce nc m 0 = ce := by
  unfold farM; split
  · rfl
  · exact mix_0 _ _
def gfZ (ce : Nat → Int) (i m : Nat) : Nat → Int := fun j => if ce j < 0 then ce (i * 6 + j) - ce (i * 6 + m) else ce (i * 6 + j)
theorem far_row {ce : Nat → Int} {nc m i : Nat} (hm : m < nc) (hn : nc ≤ 5) : va_up (rowZ (mixZ (farC ce nc m) ce (i * 6)) (i * 6) (gfZ ce i m) nc) (i * 6 + m) (-ce (i * 6 + m)) = mixZ (farC ce nc m) ce ((i + 1) * 6) := by
  funext q
  rcases (show q < i * 6 ∨ (i * 6 ≤ q ∧ q < i * 6 + 6) ∨ (i + 1) * 6 ≤ q by omega) with h | h | h
  · rw [up_ne (by omega), row_out (by omega), mix_lt h, mix_lt (by omega)]
  · obtain ⟨j, rfl⟩ : ∃ j, q = i * 6 + j := ⟨q - i * 6, by omega⟩
    have hj : j < 6 := by omega
    rw [mix_lt (by omega)]
    unfold farC
    rw [(dm6 hj).1, (dm6 hj).2]
    by_cases e : j = m
    · subst e; rw [up_same, if_pos rfl]
    · rw [up_ne (by omega), if_neg e]
      by_cases e2 : j < nc
      · rw [row_in (by omega) (by omega), show i * 6 + j - i * 6 = j by omega]
        unfold gfZ
        by_cases e3 : ce j < 0
        · rw [if_pos e3, if_pos ⟨e2, e3⟩]
        · rw [if_neg e3, if_neg (fun z => e3 z.2)]
      · rw [row_out (by omega), mix_ge (by omega), if_neg (fun z => e2 z.1)]
  · rw [up_ne (by omega), row_out (by omega), mix_ge (by omega), mix_ge h]
def reachT (nc : Nat) (S : TS) : TS := (farM S.1 nc (mostZ S.1 nc) (S.2.2.2.2.2.2.1 * 6), S.2.1, S.2.2.1, S.2.2.2.1, S.2.2.2.2.1, S.2.2.2.2.2.1, S.2.2.2.2.2.2.1, S.2.2.2.2.2.2.2.1, mostZ S.1 nc)
set_option maxHeartbeats 4000000 in
set_option maxRecDepth 100000 in
theorem kX5_reachFar (l : Launch) (D : va_G) (cA : Nat → ClassId) (t : Nat → Nat) (t_ce : Nat → Int) (t_ti : Nat → Int) (t_lo : Nat → Int) (t_hi : Nat → Int) (t_gl : Nat → Int) (t_sh : Nat → Int) (t_nc : Nat) (t_nl : Nat) (t_bel : Int) (t_far : Int) (hnl : t_nl ≤ 18) (hnc : t_nc ≤ 5) (hB : ∀ i k, k < 5 → -8000000 ≤ t_ce (i * 6 + k) ∧ t_ce (i * 6 + k) ≤ 8000000) : CT l yX5_reachFar wsX5_reachFar ({ frames := 0, cells := 0, slots := 0, locals := 0 }) D cA [.ref (t 0)] (wT cA t (t_ce) (t_ti) (t_lo) (t_hi) (t_gl) (t_sh) (((t_nc : Nat) : Int)) (((t_nl : Nat) : Int)) (t_bel) (t_far)) (fun ov ow => ov = none ∧ ow = wTS cA t t_nc (reachT t_nc (t_ce, t_ti, t_lo, t_hi, t_gl, t_sh, t_nl, t_bel, t_far))) 0 0 := by
  refine CT.mk (cc := cX5_reachFar) (maxL := 7) (ret := none) (by decide +kernel) rfl (Nat.le_of_ble_eq_true rfl) ?_
  intro p_ e_ s_ m_ b_ me_ c_ A F hnm hA
  have hV := @IM_P D s_ A
  have iX5 : ∀ w ∈ u_ws RX5 TX5 10, w ∈ wsX5_reachFar := by decide +kernel
  refine g_lsub ([(0, .ref (t 0))]) [0] rfl ?_
  refine g_iconst F dX5_reachFar_0 ?_
  refine g_istore_n F ([(1, iv (0)), (0, .ref (t 0))]) rfl rfl (by decide) dX5_reachFar_1 ?_
  refine g_iconst F dX5_reachFar_2 ?_
  refine g_istore_n F ([(2, iv (-1)), (1, iv (0)), (0, .ref (t 0))]) rfl rfl (by decide) dX5_reachFar_3 ?_
  refine g_iconst F dX5_reachFar_4 ?_
  refine g_istore_n F ([(3, iv (0)), (2, iv (-1)), (1, iv (0)), (0, .ref (t 0))]) rfl rfl (by decide) dX5_reachFar_5 ?_
  have lp6 : ∀ (n : Nat) (k : Nat) (x : Nat) (m : Int) (hk : k ≤ t_nc) (hx : x = setZ (ngZ t_ce) k) (hm : m = mostZ t_ce k), t_nc - k < n → GW p_ l e_ (headSpec wsX5_reachFar ({ frames := 0, cells := 0, slots := 0, locals := 0 })).room s_ m_ ([.ref (t 0)]).toArray b_ me_ c_ (MQ b_ (Qm D (fun ov ow => ov = none ∧ ow = wTS cA t t_nc (reachT t_nc (t_ce, t_ti, t_lo, t_hi, t_gl, t_sh, t_nl, t_bel, t_far))) A) ([.ref (t 0)]).toArray s_ 0 0 A) (IM D s_ A) 7 0 0 (wT cA t (t_ce) (t_ti) (t_lo) (t_hi) (t_gl) (t_sh) (((t_nc : Nat) : Int)) (((t_nl : Nat) : Int)) (t_bel) (t_far)) ([(0, .ref (t 0)), (1, iv (((x : Nat) : Int))), (2, iv (m)), (3, iv (((k : Nat) : Int)))]) [] 6 := by
    intro n; induction n with
    | zero => intro k x m; intros; omega
    | succ n ih6 =>
      intro k x m hk hx hm hmu6
      have hmr := mostZ_rng t_ce k
      have hbk : k < 5 → _ := hB 0 k
      have hsl := setZ_lt (ngZ t_ce) k
      refine g_iload_n F 3 rfl rfl dX5_reachFar_6 ?_
      refine g_aload_n F 0 rfl rfl dX5_reachFar_7 ?_
      refine g_get F hV iX5 0 rfl rfl 6 (by decide) (List.mem_of_getElem? (i := 1) rfl) rfl dX5_reachFar_8 ?_
      refine g_icmp_ge F (tgt := 63) dX5_reachFar_11 (by decide) ⟨by omega, by omega⟩ ⟨by omega, by omega⟩ (fun c_1 => ?_) (fun c_1 => ?_)
      · skip
        refine g_iconst F dX5_reachFar_63 ?_
        refine g_istore_n F ([(3, iv (0)), (0, .ref (t 0)), (1, iv (((x : Nat) : Int))), (2, iv (m))]) rfl rfl (by decide) dX5_reachFar_64 ?_
        have lp65 : ∀ (n : Nat) (i : Nat) (cx : Nat → Int) (hi : i ≤ t_nl) (hcx : cx = farM t_ce t_nc m (i * 6)), t_nl - i < n → GW p_ l e_ (headSpec wsX5_reachFar ({ frames := 0, cells := 0, slots := 0, locals := 0 })).room s_ m_ ([.ref (t 0)]).toArray b_ me_ c_ (MQ b_ (Qm D (fun ov ow => ov = none ∧ ow = wTS cA t t_nc (reachT t_nc (t_ce, t_ti, t_lo, t_hi, t_gl, t_sh, t_nl, t_bel, t_far))) A) ([.ref (t 0)]).toArray s_ 0 0 A) (IM D s_ A) 7 0 0 (wT cA t (cx) (t_ti) (t_lo) (t_hi) (t_gl) (t_sh) (((t_nc : Nat) : Int)) (((t_nl : Nat) : Int)) (t_bel) (t_far)) ([(0, .ref (t 0)), (1, iv (((x : Nat) : Int))), (2, iv (m)), (3, iv (((i : Nat) : Int)))]) [] 65 := by
          intro n; induction n with
          | zero => intro i cx; intros; omega
          | succ n ih65 =>
            intro i cx hi hcx hmu65
            refine g_iload_n F 3 rfl rfl dX5_reachFar_65 ?_
            refine g_aload_n F 0 rfl rfl dX5_reachFar_66 ?_
            refine g_get F hV iX5 0 rfl rfl 7 (by decide) (List.mem_of_getElem? (i := 3) rfl) rfl dX5_reachFar_67 ?_
            refine g_icmp_ge F (tgt := 155) dX5_reachFar_70 (by decide) ⟨by omega, by omega⟩ ⟨by omega, by omega⟩ (fun c_2 => ?_) (fun c_2 => ?_)
            · skip
              refine g_aload_n F 0 rfl rfl dX5_reachFar_155 ?_
              refine g_iload_n F 2 rfl rfl dX5_reachFar_156 ?_
              refine g_put F iX5 tyX5 tyX5_ok nmX5 0 rfl rfl 9 (by decide) (List.mem_of_getElem? (i := 4) rfl) rfl rfl rfl (Nat.le_of_ble_eq_true rfl) (wT cA t (cx) (t_ti) (t_lo) (t_hi) (t_gl) (t_sh) (((t_nc : Nat) : Int)) (((t_nl : Nat) : Int)) (t_bel) (m)) rfl dX5_reachFar_157 ?_
              exact g_vret F rfl (by decide) (by decide) ⟨rfl, (by have hme : m = mostZ t_ce t_nc := (by rw [hm, show k = t_nc by omega]); rw [hcx, hme]; unfold reachT; rcases (show t_nl = i ∨ m < 0 by omega) with w | w; (rw [w]); (rw [show farM t_ce t_nc (mostZ t_ce t_nc) (i * 6) = farM t_ce t_nc (mostZ t_ce t_nc) (t_nl * 6) by unfold farM; rw [if_pos (by omega), if_pos (by omega)]]))⟩ dX5_reachFar_160
            · skip
              refine g_iload_n F 2 rfl rfl dX5_reachFar_73 ?_
              refine g_if_lt F (tgt := 155) dX5_reachFar_74 (by decide) ⟨by omega, by omega⟩ (fun c_3 => ?_) (fun c_3 => ?_)
              · skip
                refine g_aload_n F 0 rfl rfl dX5_reachFar_155 ?_
                refine g_iload_n F 2 rfl rfl dX5_reachFar_156 ?_
                refine g_put F iX5 tyX5 tyX5_ok nmX5 0 rfl rfl 9 (by decide) (List.mem_of_getElem? (i := 4) rfl) rfl rfl rfl (Nat.le_of_ble_eq_true rfl) (wT cA t (cx) (t_ti) (t_lo) (t_hi) (t_gl) (t_sh) (((t_nc : Nat) : Int)) (((t_nl : Nat) : Int)) (t_bel) (m)) rfl dX5_reachFar_157 ?_
                exact g_vret F rfl (by decide) (by decide) ⟨rfl, (by have hme : m = mostZ t_ce t_nc := (by rw [hm, show k = t_nc by omega]); rw [hcx, hme]; unfold reachT; rcases (show t_nl = i ∨ m < 0 by omega) with w | w; (rw [w]); (rw [show farM t_ce t_nc (mostZ t_ce t_nc) (i * 6) = farM t_ce t_nc (mostZ t_ce t_nc) (t_nl * 6) by unfold farM; rw [if_pos (by omega), if_pos (by omega)]]))⟩ dX5_reachFar_160
              · skip
                obtain ⟨mn, hmn⟩ : ∃ mn : Nat, m = (mn : Int) := ⟨m.toNat, by omega⟩
                subst hmn
                rw [farM_nat] at hcx
                subst hcx
                refine g_aload_n F 0 rfl rfl dX5_reachFar_77 ?_
                refine g_get F hV iX5 0 rfl rfl 0 (by decide) (List.mem_of_getElem? (i := 2) rfl) rfl dX5_reachFar_78 ?_
                refine g_iload_n F 3 rfl rfl dX5_reachFar_81 ?_
                refine g_bipush F dX5_reachFar_82 (by decide) ?_
                refine g_imul F dX5_reachFar_84 ?_
                refine g_iload_n F 2 rfl rfl dX5_reachFar_85 ?_
                refine g_iadd F dX5_reachFar_86 ?_
                refine g_lald F hV 1 rfl ((i * 6) + mn) (by omega) (by omega) (by decide) dX5_reachFar_87 ?_
                obtain ⟨hd, hhd⟩ : ∃ y : Int, y = (mixZ (farC t_ce t_nc mn) t_ce (i * 6)) ((i * 6) + mn) := ⟨_, rfl⟩
                rw [← hhd]
                rw [mix_ge (by omega)] at hhd
                refine g_lstore F ([(4, jv (hd)), (0, .ref (t 0)), (1, iv (((x : Nat) : Int))), (2, iv (((mn : Nat) : Int))), (3, iv (((i : Nat) : Int)))]) rfl (by decide) dX5_reachFar_88 ?_
                refine g_iconst F dX5_reachFar_90 ?_
                refine g_istore F ([(6, iv (0)), (4, jv (hd)), (0, .ref (t 0)), (1, iv (((x : Nat) : Int))), (2, iv (((mn : Nat) : Int))), (3, iv (((i : Nat) : Int)))]) rfl (by decide) dX5_reachFar_91 ?_
                have lp93 : ∀ (n : Nat) (kk : Nat) (cy : Nat → Int) (hkk : kk ≤ t_nc) (hcy : cy = rowZ (mixZ (farC t_ce t_nc mn) t_ce (i * 6)) (i * 6) (gfZ t_ce i mn) kk), t_nc - kk < n → GW p_ l e_ (headSpec wsX5_reachFar ({ frames := 0, cells := 0, slots := 0, locals := 0 })).room s_ m_ ([.ref (t 0)]).toArray b_ me_ c_ (MQ b_ (Qm D (fun ov ow => ov = none ∧ ow = wTS cA t t_nc (reachT t_nc (t_ce, t_ti, t_lo, t_hi, t_gl, t_sh, t_nl, t_bel, t_far))) A) ([.ref (t 0)]).toArray s_ 0 0 A) (IM D s_ A) 7 0 0 (wT cA t (cy) (t_ti) (t_lo) (t_hi) (t_gl) (t_sh) (((t_nc : Nat) : Int)) (((t_nl : Nat) : Int)) (t_bel) (t_far)) ([(0, .ref (t 0)), (1, iv (((x : Nat) : Int))), (2, iv (((mn : Nat) : Int))), (3, iv (((i : Nat) : Int))), (4, jv (hd)), (6, iv (((kk : Nat) : Int)))]) [] 93 := by
                  intro n; induction n with
                  | zero => intro kk cy; intros; omega
                  | succ n ih93 =>
                    intro kk cy hkk hcy hmu93
                    subst hcy
                    have hx32 : x < 32 := by rw [hx]; exact Nat.lt_of_lt_of_le (setZ_lt _ k) (Nat.le_trans (Nat.pow_le_pow_right (by decide) (show k ≤ 5 by omega)) (by decide))
                    refine g_iload F 5 rfl dX5_reachFar_93 ?_
                    refine g_aload_n F 0 rfl rfl dX5_reachFar_95 ?_
                    refine g_get F hV iX5 0 rfl rfl 6 (by decide) (List.mem_of_getElem? (i := 1) rfl) rfl dX5_reachFar_96 ?_
                    refine g_icmp_ge F (tgt := 135) dX5_reachFar_99 (by decide) ⟨by omega, by omega⟩ ⟨by omega, by omega⟩ (fun c_4 => ?_) (fun c_4 => ?_)
                    · skip
                      refine g_aload_n F 0 rfl rfl dX5_reachFar_135 ?_
                      refine g_get F hV iX5 0 rfl rfl 0 (by decide) (List.mem_of_getElem? (i := 2) rfl) rfl dX5_reachFar_136 ?_
                      refine g_iload_n F 3 rfl rfl dX5_reachFar_139 ?_
                      refine g_bipush F dX5_reachFar_140 (by decide) ?_
                      refine g_imul F dX5_reachFar_142 ?_
                      refine g_iload_n F 2 rfl rfl dX5_reachFar_143 ?_
                      refine g_iadd F dX5_reachFar_144 ?_
                      refine g_lload F 4 rfl dX5_reachFar_145 ?_
                      refine g_lneg F dX5_reachFar_147 ?_
                      refine g_last F 1 rfl ((i * 6) + mn) (by omega) (by omega) (by decide) (wT cA t (va_up (rowZ (mixZ (farC t_ce t_nc mn) t_ce (i * 6)) (i * 6) (gfZ t_ce i mn) kk) ((i * 6) + mn) (-hd)) (t_ti) (t_lo) (t_hi) (t_gl) (t_sh) (((t_nc : Nat) : Int)) (((t_nl : Nat) : Int)) (t_bel) (t_far)) rfl dX5_reachFar_148 ?_
                      refine g_iinc F 3 rfl ([(3, iv ((((i : Nat) : Int)) + 1)), (0, .ref (t 0)), (1, iv (((x : Nat) : Int))), (2, iv (((mn : Nat) : Int))), (4, jv (hd)), (6, iv (((kk : Nat) : Int)))]) rfl (by decide) dX5_reachFar_149 ?_
                      refine g_goto F (tgt := 65) dX5_reachFar_152 (by decide) ?_
                      refine g_lsub ([(0, .ref (t 0)), (1, iv (((x : Nat) : Int))), (2, iv (((mn : Nat) : Int))), (3, iv ((((i : Nat) : Int)) + 1))]) [1, 2, 3, 0] rfl ?_
                      exact ih65 (i + 1) (va_up (rowZ (mixZ (farC t_ce t_nc mn) t_ce (i * 6)) (i * 6) (gfZ t_ce i mn) kk) ((i * 6) + mn) (-hd)) (by omega) (by rw [farM_nat, hhd, show kk = t_nc by omega]; exact far_row (by omega) hnc) (by omega)
                    · skip
                      refine g_iload_n F 1 rfl rfl dX5_reachFar_102 ?_
                      refine g_iload F 5 rfl dX5_reachFar_103 ?_
                      refine g_ishr F (a := x) (b := kk) rfl rfl (by omega) (by omega) dX5_reachFar_105 ?_
                      refine g_iconst F dX5_reachFar_106 ?_
                      refine g_iand F (a := (x >>> kk)) (b := 1) rfl rfl dX5_reachFar_107 ?_
                      have hbt : (x >>> kk) &&& 1 = if t_ce kk < 0 then 1 else 0 := by rw [hx, show k = t_nc by omega]; exact ng_bit (by omega)
                      have hbr : (x >>> kk) &&& 1 ≤ 1 := by rw [hbt]; split <;> omega
                      refine g_iconst F dX5_reachFar_108 ?_
                      refine g_icmp_ne F (tgt := 129) dX5_reachFar_109 (by decide) ⟨by omega, by omega⟩ ⟨by decide, by decide⟩ (fun c_5 => ?_) (fun c_5 => ?_)
                      · skip
                        have hng : ¬ t_ce kk < 0 := by intro w; rw [if_pos w] at hbt; exact c_5 (by rw [hbt]; rfl)
                        refine g_iinc F 5 rfl ([(6, iv ((((kk : Nat) : Int)) + 1)), (0, .ref (t 0)), (1, iv (((x : Nat) : Int))), (2, iv (((mn : Nat) : Int))), (3, iv (((i : Nat) : Int))), (4, jv (hd))]) rfl (by decide) dX5_reachFar_129 ?_
                        refine g_goto F (tgt := 93) dX5_reachFar_132 (by decide) ?_
                        refine g_lsub ([(0, .ref (t 0)), (1, iv (((x : Nat) : Int))), (2, iv (((mn : Nat) : Int))), (3, iv (((i : Nat) : Int))), (4, jv (hd)), (6, iv ((((kk : Nat) : Int)) + 1))]) [1, 2, 3, 4, 5, 0] rfl ?_
                        exact ih93 (kk + 1) (rowZ (mixZ (farC t_ce t_nc mn) t_ce (i * 6)) (i * 6) (gfZ t_ce i mn) kk) (by omega) (by rw [← row_up (v := gfZ t_ce i mn kk) rfl]; funext q9; by_cases e9 : q9 = i * 6 + kk; (subst e9; rw [up_same, row_out (by omega), mix_ge (by omega)]; unfold gfZ; rw [if_neg hng]); (rw [up_ne e9])) (by omega)
                      · skip
                        have hng : t_ce kk < 0 := by by_cases w : t_ce kk < 0; exact w; rw [if_neg w] at hbt; rw [hbt] at c_5; exact absurd c_5 (by decide)
                        refine g_aload_n F 0 rfl rfl dX5_reachFar_112 ?_
                        refine g_get F hV iX5 0 rfl rfl 0 (by decide) (List.mem_of_getElem? (i := 2) rfl) rfl dX5_reachFar_113 ?_
                        refine g_iload_n F 3 rfl rfl dX5_reachFar_116 ?_
                        refine g_bipush F dX5_reachFar_117 (by decide) ?_
                        refine g_imul F dX5_reachFar_119 ?_
                        refine g_iload F 5 rfl dX5_reachFar_120 ?_
                        refine g_iadd F dX5_reachFar_122 ?_
                        refine g_dup2 F rfl rfl dX5_reachFar_123 ?_
                        refine g_lald F hV 1 rfl ((i * 6) + kk) (by omega) (by omega) (by decide) dX5_reachFar_124 ?_
                        refine g_lload F 4 rfl dX5_reachFar_125 ?_
                        refine g_lsub2 F dX5_reachFar_127 ?_
                        refine g_last F 1 rfl ((i * 6) + kk) (by omega) (by omega) (by decide) (wT cA t (va_up (rowZ (mixZ (farC t_ce t_nc mn) t_ce (i * 6)) (i * 6) (gfZ t_ce i mn) kk) ((i * 6) + kk) (((rowZ (mixZ (farC t_ce t_nc mn) t_ce (i * 6)) (i * 6) (gfZ t_ce i mn) kk) ((i * 6) + kk)) - hd)) (t_ti) (t_lo) (t_hi) (t_gl) (t_sh) (((t_nc : Nat) : Int)) (((t_nl : Nat) : Int)) (t_bel) (t_far)) rfl dX5_reachFar_128 ?_
                        refine g_iinc F 5 rfl ([(6, iv ((((kk : Nat) : Int)) + 1)), (0, .ref (t 0)), (1, iv (((x : Nat) : Int))), (2, iv (((mn : Nat) : Int))), (3, iv (((i : Nat) : Int))), (4, jv (hd))]) rfl (by decide) dX5_reachFar_129 ?_
                        refine g_goto F (tgt := 93) dX5_reachFar_132 (by decide) ?_
                        refine g_lsub ([(0, .ref (t 0)), (1, iv (((x : Nat) : Int))), (2, iv (((mn : Nat) : Int))), (3, iv (((i : Nat) : Int))), (4, jv (hd)), (6, iv ((((kk : Nat) : Int)) + 1))]) [1, 2, 3, 4, 5, 0] rfl ?_
                        exact ih93 (kk + 1) (va_up (rowZ (mixZ (farC t_ce t_nc mn) t_ce (i * 6)) (i * 6) (gfZ t_ce i mn) kk) ((i * 6) + kk) (((rowZ (mixZ (farC t_ce t_nc mn) t_ce (i * 6)) (i * 6) (gfZ t_ce i mn) kk) ((i * 6) + kk)) - hd)) (by omega) (row_up (by rw [row_out (by omega), mix_ge (by omega), hhd]; unfold gfZ; rw [if_pos hng])) (by omega)
                refine g_lsub ([(0, .ref (t 0)), (1, iv (((x : Nat) : Int))), (2, iv (((mn : Nat) : Int))), (3, iv (((i : Nat) : Int))), (4, jv (hd)), (6, iv (0))]) [2, 3, 4, 5, 1, 0] rfl ?_
                exact lp93 (_ + 1) 0 (mixZ (farC t_ce t_nc mn) t_ce (i * 6)) (by omega) (row_0 _ _ _).symm (Nat.lt_succ_self _)
        refine g_lsub ([(0, .ref (t 0)), (1, iv (((x : Nat) : Int))), (2, iv (m)), (3, iv (0))]) [1, 2, 3, 0] rfl ?_
        exact lp65 (_ + 1) 0 t_ce (by omega) (by rw [Nat.zero_mul, farM_0]) (Nat.lt_succ_self _)
      · skip
        refine g_aload_n F 0 rfl rfl dX5_reachFar_14 ?_
        refine g_get F hV iX5 0 rfl rfl 0 (by decide) (List.mem_of_getElem? (i := 2) rfl) rfl dX5_reachFar_15 ?_
        refine g_iload_n F 3 rfl rfl dX5_reachFar_18 ?_
        refine g_lald F hV 1 rfl (k) (by omega) (by omega) (by decide) dX5_reachFar_19 ?_
        refine g_lconst F (z := 0) dX5_reachFar_20 (by decide) ?_
        have hbk2 := hB 0 k (by omega)
        simp only [Nat.zero_mul, Nat.zero_add] at hbk2
        refine g_lcmp_ge F (tgt := 57) dX5_reachFar_21 dX5_reachFar_22 (by decide) ⟨by omega, by omega⟩ ⟨by decide, by decide⟩ (fun c_6 => ?_) (fun c_6 => ?_)
        · skip
          refine g_iinc F 3 rfl ([(3, iv ((((k : Nat) : Int)) + 1)), (0, .ref (t 0)), (1, iv (((x : Nat) : Int))), (2, iv (m))]) rfl (by decide) dX5_reachFar_57 ?_
          refine g_goto F (tgt := 6) dX5_reachFar_60 (by decide) ?_
          refine g_lsub ([(0, .ref (t 0)), (1, iv (((x : Nat) : Int))), (2, iv (m)), (3, iv ((((k : Nat) : Int)) + 1))]) [1, 2, 3, 0] rfl ?_
          exact ih6 (k + 1) x m (by omega) (by rw [hx, setZ_succ]; unfold ngZ; first | (rw [if_pos (by omega)]; simp only [if_pos]; done) | (rw [if_neg (by omega)]; done) | (simp only [if_neg (show ¬ t_ce k < 0 by omega)]; rfl) | (simp only [if_pos (show t_ce k < 0 by omega)]; rfl)) (by refine hm.trans (mostZ_no ?_).symm; rw [← hm]; rintro ⟨q1, q2⟩; first | omega | (rcases q2 with q2 | q2; omega; rw [Int.toNat_natCast] at q2; omega)) (by omega)
        · skip
          refine g_iload_n F 1 rfl rfl dX5_reachFar_25 ?_
          refine g_iconst F dX5_reachFar_26 ?_
          refine g_iload_n F 3 rfl rfl dX5_reachFar_27 ?_
          refine g_ishl F (a := 1) (b := k) rfl rfl (by omega) (by exact shl1_lt (by omega)) dX5_reachFar_28 ?_
          refine g_ior F (a := x) (b := (1 <<< k)) rfl rfl dX5_reachFar_29 ?_
          refine g_istore_n F ([(1, iv (((x ||| (1 <<< k) : Nat) : Int))), (0, .ref (t 0)), (2, iv (m)), (3, iv (((k : Nat) : Int)))]) rfl rfl (by decide) dX5_reachFar_30 ?_
          refine g_iload_n F 2 rfl rfl dX5_reachFar_31 ?_
          refine g_if_lt F (tgt := 51) dX5_reachFar_32 (by decide) ⟨by omega, by omega⟩ (fun c_7 => ?_) (fun c_7 => ?_)
          · skip
            refine g_iload_n F 3 rfl rfl dX5_reachFar_51 ?_
            refine g_goto F (tgt := 56) dX5_reachFar_52 (by decide) ?_
            refine g_istore_n F ([(2, iv (((k : Nat) : Int))), (1, iv (((x ||| (1 <<< k) : Nat) : Int))), (0, .ref (t 0)), (3, iv (((k : Nat) : Int)))]) rfl rfl (by decide) dX5_reachFar_56 ?_
            refine g_iinc F 3 rfl ([(3, iv ((((k : Nat) : Int)) + 1)), (2, iv (((k : Nat) : Int))), (1, iv (((x ||| (1 <<< k) : Nat) : Int))), (0, .ref (t 0))]) rfl (by decide) dX5_reachFar_57 ?_
            refine g_goto F (tgt := 6) dX5_reachFar_60 (by decide) ?_
            refine g_lsub ([(0, .ref (t 0)), (1, iv (((x ||| (1 <<< k) : Nat) : Int))), (2, iv (((k : Nat) : Int))), (3, iv ((((k : Nat) : Int)) + 1))]) [3, 2, 1, 0] rfl ?_
            exact ih6 (k + 1) (x ||| (1 <<< k)) (((k : Nat) : Int)) (by omega) (by rw [hx, setZ_succ]; unfold ngZ; first | (rw [if_pos (by omega)]; simp only [if_pos]; done) | (rw [if_neg (by omega)]; done) | (simp only [if_neg (show ¬ t_ce k < 0 by omega)]; rfl) | (simp only [if_pos (show t_ce k < 0 by omega)]; rfl)) (by refine (mostZ_yes ⟨by omega, ?_⟩).symm; rw [← hm]; first | exact Or.inl (by omega) | exact Or.inr (by rw [Int.toNat_natCast]; omega)) (by omega)
          · skip
            obtain ⟨mn, hmn⟩ : ∃ mn : Nat, m = (mn : Int) := ⟨m.toNat, by omega⟩
            subst hmn
            have hbm := hB 0 mn (by omega)
            refine g_aload_n F 1 rfl rfl dX5_reachFar_35 ?_
            refine g_get F hV iX5 0 rfl rfl 0 (by decide) (List.mem_of_getElem? (i := 2) rfl) rfl dX5_reachFar_36 ?_
            refine g_iload_n F 3 rfl rfl dX5_reachFar_39 ?_
            refine g_lald F hV 1 rfl (k) (by omega) (by omega) (by decide) dX5_reachFar_40 ?_
            refine g_aload_n F 1 rfl rfl dX5_reachFar_41 ?_
            refine g_get F hV iX5 0 rfl rfl 0 (by decide) (List.mem_of_getElem? (i := 2) rfl) rfl dX5_reachFar_42 ?_
            refine g_iload_n F 2 rfl rfl dX5_reachFar_45 ?_
            refine g_lald F hV 1 rfl (mn) (by omega) (by omega) (by decide) dX5_reachFar_46 ?_
            simp only [Nat.zero_mul, Nat.zero_add] at hbm
            refine g_lcmp_gt F (tgt := 55) dX5_reachFar_47 dX5_reachFar_48 (by decide) ⟨by omega, by omega⟩ ⟨by omega, by omega⟩ (fun c_8 => ?_) (fun c_8 => ?_)
            · skip
              refine g_iload_n F 2 rfl rfl dX5_reachFar_55 ?_
              refine g_istore_n F ([(2, iv (((mn : Nat) : Int))), (1, iv (((x ||| (1 <<< k) : Nat) : Int))), (0, .ref (t 0)), (3, iv (((k : Nat) : Int)))]) rfl rfl (by decide) dX5_reachFar_56 ?_
              refine g_iinc F 3 rfl ([(3, iv ((((k : Nat) : Int)) + 1)), (2, iv (((mn : Nat) : Int))), (1, iv (((x ||| (1 <<< k) : Nat) : Int))), (0, .ref (t 0))]) rfl (by decide) dX5_reachFar_57 ?_
              refine g_goto F (tgt := 6) dX5_reachFar_60 (by decide) ?_
              refine g_lsub ([(0, .ref (t 0)), (1, iv (((x ||| (1 <<< k) : Nat) : Int))), (2, iv (((mn : Nat) : Int))), (3, iv ((((k : Nat) : Int)) + 1))]) [3, 2, 1, 0] rfl ?_
              exact ih6 (k + 1) (x ||| (1 <<< k)) (((mn : Nat) : Int)) (by omega) (by rw [hx, setZ_succ]; unfold ngZ; first | (rw [if_pos (by omega)]; simp only [if_pos]; done) | (rw [if_neg (by omega)]; done) | (simp only [if_neg (show ¬ t_ce k < 0 by omega)]; rfl) | (simp only [if_pos (show t_ce k < 0 by omega)]; rfl)) (by refine hm.trans (mostZ_no ?_).symm; rw [← hm]; rintro ⟨q1, q2⟩; first | omega | (rcases q2 with q2 | q2; omega; rw [Int.toNat_natCast] at q2; omega)) (by omega)
            · skip
              refine g_iload_n F 3 rfl rfl dX5_reachFar_51 ?_
              refine g_goto F (tgt := 56) dX5_reachFar_52 (by decide) ?_
              refine g_istore_n F ([(2, iv (((k : Nat) : Int))), (1, iv (((x ||| (1 <<< k) : Nat) : Int))), (0, .ref (t 0)), (3, iv (((k : Nat) : Int)))]) rfl rfl (by decide) dX5_reachFar_56 ?_
              refine g_iinc F 3 rfl ([(3, iv ((((k : Nat) : Int)) + 1)), (2, iv (((k : Nat) : Int))), (1, iv (((x ||| (1 <<< k) : Nat) : Int))), (0, .ref (t 0))]) rfl (by decide) dX5_reachFar_57 ?_
              refine g_goto F (tgt := 6) dX5_reachFar_60 (by decide) ?_
              refine g_lsub ([(0, .ref (t 0)), (1, iv (((x ||| (1 <<< k) : Nat) : Int))), (2, iv (((k : Nat) : Int))), (3, iv ((((k : Nat) : Int)) + 1))]) [3, 2, 1, 0] rfl ?_
              exact ih6 (k + 1) (x ||| (1 <<< k)) (((k : Nat) : Int)) (by omega) (by rw [hx, setZ_succ]; unfold ngZ; first | (rw [if_pos (by omega)]; simp only [if_pos]; done) | (rw [if_neg (by omega)]; done) | (simp only [if_neg (show ¬ t_ce k < 0 by omega)]; rfl) | (simp only [if_pos (show t_ce k < 0 by omega)]; rfl)) (by refine (mostZ_yes ⟨by omega, ?_⟩).symm; rw [← hm]; first | exact Or.inl (by omega) | exact Or.inr (by rw [Int.toNat_natCast]; omega)) (by omega)
  refine g_lsub ([(0, .ref (t 0)), (1, iv (0)), (2, iv (-1)), (3, iv (0))]) [3, 2, 1, 0] rfl ?_
  exact lp6 (_ + 1) 0 0 (-1) (by omega) (rfl) (rfl) (Nat.lt_succ_self _)
