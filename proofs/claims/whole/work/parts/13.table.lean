def wyZ (ce : Nat → Int) (line k : Nat) : Int := if ce (line * 6 + k) < 0 then -1 else 1
theorem wyZ_or (ce : Nat → Int) (line k : Nat) : wyZ ce line k = -1 ∨ wyZ ce line k = 1 := by unfold wyZ; split <;> simp
theorem wyZ_pos {ce : Nat → Int} {line k : Nat} (h : ce (line * 6 + k) ≠ 0) : 0 < wyZ ce line k * ce (line * 6 + k) ∧ wyZ ce line k * ce (line * 6 + k) = ((ce (line * 6 + k)).natAbs : Int) := by
  unfold wyZ; split <;> constructor <;> omega
theorem wyZ_abs {ce : Nat → Int} {line k : Nat} (x : Int) : (wyZ ce line k * x).natAbs = x.natAbs := by
  rcases wyZ_or ce line k with h | h <;> rw [h] <;> simp
/-- the cells behind a turn, but for the line's own -/
def tnC (ce sh : Nat → Int) (nc line k : Nat) (bel way pv : Int) : Nat → Int := fun q =>
  if q / 6 ≠ line ∧ (way * ce (q / 6 * 6 + k) ≠ 0 ∨ pv ≠ bel) ∧ q % 6 ≠ k ∧ (nc ≤ q % 6 ∨ sh (q % 6) = 0) then Int.tdiv (pv * ce q - way * ce (q / 6 * 6 + k) * ce (line * 6 + q % 6)) bel else ce q
theorem dm6 {i j : Nat} (h : j < 6) : (i * 6 + j) / 6 = i ∧ (i * 6 + j) % 6 = j := by omega
theorem tnC_line {ce sh : Nat → Int} {nc line k : Nat} {bel way pv : Int} {j : Nat} (h : j < 6) : tnC ce sh nc line k bel way pv (line * 6 + j) = ce (line * 6 + j) := by
  unfold tnC; rw [if_neg (by rw [(dm6 h).1]; simp)]
theorem mix_line {ce sh : Nat → Int} {nc line k : Nat} {bel way pv : Int} {j n : Nat} (h : j < 6) : mixZ (tnC ce sh nc line k bel way pv) ce n (line * 6 + j) = ce (line * 6 + j) := by
  unfold mixZ; split
  · exact tnC_line h
  · rfl
theorem tn_row {ce sh : Nat → Int} {nc line k : Nat} {bel way pv : Int} {i : Nat} (h : i = line ∨ (way * ce (i * 6 + k) = 0 ∧ pv = bel)) : mixZ (tnC ce sh nc line k bel way pv) ce (i * 6) = mixZ (tnC ce sh nc line k bel way pv) ce ((i + 1) * 6) := by
  refine mix_skip (by omega) (fun q h1 h2 => ?_)
  have e : q / 6 = i := by omega
  unfold tnC
  rw [if_neg]
  rw [e]
  rintro ⟨a, b, -⟩
  rcases h with h | ⟨h, h'⟩
  · exact a h
  · rcases b with b | b
    · exact b h
    · exact b h'
theorem tn_skip {ce sh : Nat → Int} {nc line k : Nat} {bel way pv : Int} {i j : Nat} (hj : j < 6) (h : j = k ∨ (j < nc ∧ sh j ≠ 0)) : mixZ (tnC ce sh nc line k bel way pv) ce (i * 6 + j) = mixZ (tnC ce sh nc line k bel way pv) ce (i * 6 + (j + 1)) := by
  refine mix_skip (by omega) (fun q h1 h2 => ?_)
  have e : q % 6 = j := by omega
  unfold tnC
  rw [if_neg]
  rw [e]
  rintro ⟨-, -, c, d⟩
  rcases h with h | ⟨h, h'⟩
  · exact c h
  · rcases d with d | d
    · omega
    · exact h' d
theorem tn_put {ce sh : Nat → Int} {nc line k : Nat} {bel way pv v : Int} {i j : Nat} (hj : j < 6) (h1 : i ≠ line) (h2 : way * ce (i * 6 + k) ≠ 0 ∨ pv ≠ bel) (h3 : j ≠ k) (h4 : nc ≤ j ∨ sh j = 0) (hv : v = Int.tdiv (pv * ce (i * 6 + j) - way * ce (i * 6 + k) * ce (line * 6 + j)) bel) :
    va_up (mixZ (tnC ce sh nc line k bel way pv) ce (i * 6 + j)) (i * 6 + j) v = mixZ (tnC ce sh nc line k bel way pv) ce (i * 6 + (j + 1)) := by
  refine mix_up (n := i * 6 + j) ?_
  unfold tnC
  rw [(dm6 hj).1, (dm6 hj).2, if_pos ⟨h1, h2, h3, h4⟩, hv]
def turnT (nc line k : Nat) (S : TS) : TS :=
  (va_up (fillZ (mixZ (tnC S.1 S.2.2.2.2.2.1 nc line k S.2.2.2.2.2.2.2.1 (wyZ S.1 line k) (wyZ S.1 line k * S.1 (line * 6 + k))) S.1 (S.2.2.2.2.2.2.1 * 6)) (line * 6) 6 0) (line * 6 + k) (wyZ S.1 line k * S.1 (line * 6 + k)),
    S.2.1, S.2.2.1, S.2.2.2.1, S.2.2.2.2.1, va_up S.2.2.2.2.2.1 k (if S.2.1 line = 2 then 1 else 0), S.2.2.2.2.2.2.1, wyZ S.1 line k * S.1 (line * 6 + k), if S.2.2.2.2.2.2.2.2 = (k : Int) then -1 else S.2.2.2.2.2.2.2.2)
set_option maxHeartbeats 4000000 in
set_option maxRecDepth 100000 in
theorem kX5_turn (l : Launch) (D : va_G) (cA : Nat → ClassId) (t : Nat → Nat) (t_ce : Nat → Int) (t_ti : Nat → Int) (t_lo : Nat → Int) (t_hi : Nat → Int) (t_gl : Nat → Int) (t_sh : Nat → Int) (t_nc : Nat) (t_nl : Nat) (t_bel : Int) (t_far : Int) (line : Nat) (k : Nat) (hln : line < t_nl) (hk : k < 5) (hnl : t_nl ≤ 18) (hnc : t_nc ≤ 5) (hB : ∀ i k, k < 5 → -8000000 ≤ t_ce (i * 6 + k) ∧ t_ce (i * 6 + k) ≤ 8000000) (hC : ∀ i, -100000000000 ≤ t_ce (i * 6 + 5) ∧ t_ce (i * 6 + 5) ≤ 100000000000) (hbl : 0 < t_bel ∧ t_bel ≤ 8000000) (hsh : ∀ j, 0 ≤ t_sh j ∧ t_sh j ≤ 1) (hti : ∀ j, 0 ≤ t_ti j ∧ t_ti j ≤ 2) (hf : -1 ≤ t_far ∧ t_far ≤ 4) (hp0 : t_ce (line * 6 + k) ≠ 0) : CT l yX5_turn wsX5_turn ({ frames := 0, cells := 0, slots := 0, locals := 0 }) D cA [.ref (t 0), iv (((line : Nat) : Int)), iv (((k : Nat) : Int))] (wT cA t (t_ce) (t_ti) (t_lo) (t_hi) (t_gl) (t_sh) (((t_nc : Nat) : Int)) (((t_nl : Nat) : Int)) (t_bel) (t_far)) (fun ov ow => ov = none ∧ ow = wTS cA t t_nc (turnT t_nc line k (t_ce, t_ti, t_lo, t_hi, t_gl, t_sh, t_nl, t_bel, t_far))) 0 0 := by
  refine CT.mk (cc := cX5_turn) (maxL := 12) (ret := none) (by decide +kernel) rfl (Nat.le_of_ble_eq_true rfl) ?_
  intro p_ e_ s_ m_ b_ me_ c_ A F hnm hA
  have hV := @IM_P D s_ A
  have iX5 : ∀ w ∈ u_ws RX5 TX5 10, w ∈ wsX5_turn := by decide +kernel
  have hb0 := hB line k hk
  have hwp := wyZ_pos hp0
  have hwo := wyZ_or t_ce line k
  refine g_lsub ([(0, .ref (t 0)), (1, iv (((line : Nat) : Int))), (2, iv (((k : Nat) : Int)))]) [0, 1, 2] rfl ?_
  refine g_iload_n F 1 rfl rfl dX5_turn_0 ?_
  refine g_bipush F dX5_turn_1 (by decide) ?_
  refine g_imul F dX5_turn_3 ?_
  refine g_istore_n F ([(3, iv ((((line : Nat) : Int)) * 6)), (0, .ref (t 0)), (1, iv (((line : Nat) : Int))), (2, iv (((k : Nat) : Int)))]) rfl rfl (by decide) dX5_turn_4 ?_
  refine g_aload_n F 1 rfl rfl dX5_turn_5 ?_
  refine g_get F hV iX5 0 rfl rfl 0 (by decide) (List.mem_of_getElem? (i := 1) rfl) rfl dX5_turn_6 ?_
  refine g_iload_n F 0 rfl rfl dX5_turn_9 ?_
  refine g_iload_n F 3 rfl rfl dX5_turn_10 ?_
  refine g_iadd F dX5_turn_11 ?_
  refine g_lald F hV 1 rfl ((line * 6) + k) (by omega) (by omega) (by decide) dX5_turn_12 ?_
  refine g_lconst F (z := 0) dX5_turn_13 (by decide) ?_
  refine g_lcmp_ge F (tgt := 22) dX5_turn_14 dX5_turn_15 (by decide) ⟨by omega, by omega⟩ ⟨by decide, by decide⟩ (fun c_1 => ?_) (fun c_1 => ?_)
  · skip
    refine g_iconst F dX5_turn_22 ?_
    refine g_eq (st' := [iv (wyZ t_ce line k)]) rfl rfl (congrArg (fun zz => [iv zz]) (show (1 : Int) = wyZ t_ce line k from (by unfold wyZ; first | (rw [if_pos (by omega)]; done) | (rw [if_neg (by omega)]; done)))) ?_
    refine g_istore F ([(4, iv (wyZ t_ce line k)), (3, iv ((((line : Nat) : Int)) * 6)), (0, .ref (t 0)), (1, iv (((line : Nat) : Int))), (2, iv (((k : Nat) : Int)))]) rfl (by decide) dX5_turn_23 ?_
    refine g_iload F 0 rfl dX5_turn_25 ?_
    refine g_i2l F ⟨by omega, by omega⟩ dX5_turn_27 ?_
    refine g_aload_n F 2 rfl rfl dX5_turn_28 ?_
    refine g_get F hV iX5 0 rfl rfl 0 (by decide) (List.mem_of_getElem? (i := 1) rfl) rfl dX5_turn_29 ?_
    refine g_iload_n F 1 rfl rfl dX5_turn_32 ?_
    refine g_iload_n F 4 rfl rfl dX5_turn_33 ?_
    refine g_iadd F dX5_turn_34 ?_
    refine g_lald F hV 1 rfl ((line * 6) + k) (by omega) (by omega) (by decide) dX5_turn_35 ?_
    refine g_lmul F dX5_turn_36 ?_
    obtain ⟨pv, hpv⟩ : ∃ y : Int, y = (wyZ t_ce line k) * (t_ce ((line * 6) + k)) := ⟨_, rfl⟩
    rw [← hpv]
    have hpb : 0 < pv ∧ pv ≤ 8000000 := by rw [hpv, hwp.2]; omega
    refine g_lstore F ([(5, jv (pv)), (4, iv (wyZ t_ce line k)), (3, iv ((((line : Nat) : Int)) * 6)), (0, .ref (t 0)), (1, iv (((line : Nat) : Int))), (2, iv (((k : Nat) : Int)))]) rfl (by decide) dX5_turn_37 ?_
    refine g_lload F 0 rfl dX5_turn_39 ?_
    refine g_lconst F (z := 0) dX5_turn_41 (by decide) ?_
    refine g_lcmp_eq F (tgt := 55) dX5_turn_42 dX5_turn_43 (by decide) ⟨by omega, by omega⟩ ⟨by decide, by decide⟩ (fun c_2 => ?_) (fun c_2 => ?_)
    · skip
      exact absurd c_2 (by omega)
    · skip
      refine g_aload_n F 3 rfl rfl dX5_turn_46 ?_
      refine g_get F hV iX5 0 rfl rfl 8 (by decide) (List.mem_of_getElem? (i := 2) rfl) rfl dX5_turn_47 ?_
      refine g_lconst F (z := 0) dX5_turn_50 (by decide) ?_
      refine g_lcmp_ne F (tgt := 56) dX5_turn_51 dX5_turn_52 (by decide) ⟨by omega, by omega⟩ ⟨by decide, by decide⟩ (fun c_3 => ?_) (fun c_3 => ?_)
      · skip
        refine g_iconst F dX5_turn_56 ?_
        refine g_istore F ([(7, iv (0)), (5, jv (pv)), (4, iv (wyZ t_ce line k)), (3, iv ((((line : Nat) : Int)) * 6)), (0, .ref (t 0)), (1, iv (((line : Nat) : Int))), (2, iv (((k : Nat) : Int)))]) rfl (by decide) dX5_turn_57 ?_
        have lp59 : ∀ (n : Nat) (i : Nat) (cx : Nat → Int) (hi : i ≤ t_nl) (hcx : cx = mixZ (tnC t_ce t_sh t_nc line k t_bel (wyZ t_ce line k) pv) t_ce (i * 6)), t_nl - i < n → GW p_ l e_ (headSpec wsX5_turn ({ frames := 0, cells := 0, slots := 0, locals := 0 })).room s_ m_ ([.ref (t 0), iv (((line : Nat) : Int)), iv (((k : Nat) : Int))]).toArray b_ me_ c_ (MQ b_ (Qm D (fun ov ow => ov = none ∧ ow = wTS cA t t_nc (turnT t_nc line k (t_ce, t_ti, t_lo, t_hi, t_gl, t_sh, t_nl, t_bel, t_far))) A) ([.ref (t 0), iv (((line : Nat) : Int)), iv (((k : Nat) : Int))]).toArray s_ 0 0 A) (IM D s_ A) 12 0 0 (wT cA t (cx) (t_ti) (t_lo) (t_hi) (t_gl) (t_sh) (((t_nc : Nat) : Int)) (((t_nl : Nat) : Int)) (t_bel) (t_far)) ([(0, .ref (t 0)), (1, iv (((line : Nat) : Int))), (2, iv (((k : Nat) : Int))), (3, iv ((((line : Nat) : Int)) * 6)), (4, iv (wyZ t_ce line k)), (5, jv (pv)), (7, iv (((i : Nat) : Int)))]) [] 59 := by
          intro n; induction n with
          | zero => intro i cx; intros; omega
          | succ n ih59 =>
            intro i cx hi hcx hmu59
            subst hcx
            refine g_iload F 6 rfl dX5_turn_59 ?_
            refine g_aload_n F 0 rfl rfl dX5_turn_61 ?_
            refine g_get F hV iX5 0 rfl rfl 7 (by decide) (List.mem_of_getElem? (i := 3) rfl) rfl dX5_turn_62 ?_
            refine g_icmp_ge F (tgt := 201) dX5_turn_65 (by decide) ⟨by omega, by omega⟩ ⟨by omega, by omega⟩ (fun c_4 => ?_) (fun c_4 => ?_)
            · skip
              have hie : t_nl = i := by omega
              subst hie
              refine g_iconst F dX5_turn_201 ?_
              refine g_istore F ([(7, iv (0)), (0, .ref (t 0)), (1, iv (((line : Nat) : Int))), (2, iv (((k : Nat) : Int))), (3, iv ((((line : Nat) : Int)) * 6)), (4, iv (wyZ t_ce line k)), (5, jv (pv))]) rfl (by decide) dX5_turn_202 ?_
              have lp204 : ∀ (n : Nat) (z : Nat) (cz : Nat → Int) (hz : z ≤ 6) (hcz : cz = fillZ (mixZ (tnC t_ce t_sh t_nc line k t_bel (wyZ t_ce line k) pv) t_ce (t_nl * 6)) (line * 6) z 0), 6 - z < n → GW p_ l e_ (headSpec wsX5_turn ({ frames := 0, cells := 0, slots := 0, locals := 0 })).room s_ m_ ([.ref (t 0), iv (((line : Nat) : Int)), iv (((k : Nat) : Int))]).toArray b_ me_ c_ (MQ b_ (Qm D (fun ov ow => ov = none ∧ ow = wTS cA t t_nc (turnT t_nc line k (t_ce, t_ti, t_lo, t_hi, t_gl, t_sh, t_nl, t_bel, t_far))) A) ([.ref (t 0), iv (((line : Nat) : Int)), iv (((k : Nat) : Int))]).toArray s_ 0 0 A) (IM D s_ A) 12 0 0 (wT cA t (cz) (t_ti) (t_lo) (t_hi) (t_gl) (t_sh) (((t_nc : Nat) : Int)) (((t_nl : Nat) : Int)) (t_bel) (t_far)) ([(0, .ref (t 0)), (1, iv (((line : Nat) : Int))), (2, iv (((k : Nat) : Int))), (3, iv ((((line : Nat) : Int)) * 6)), (4, iv (wyZ t_ce line k)), (5, jv (pv)), (7, iv (((z : Nat) : Int)))]) [] 204 := by
                intro n; induction n with
                | zero => intro z cz; intros; omega
                | succ n ih204 =>
                  intro z cz hz hcz hmu204
                  subst hcz
                  refine g_iload F 6 rfl dX5_turn_204 ?_
                  refine g_bipush F dX5_turn_206 (by decide) ?_
                  refine g_icmp_ge F (tgt := 227) dX5_turn_208 (by decide) ⟨by omega, by omega⟩ ⟨by decide, by decide⟩ (fun c_5 => ?_) (fun c_5 => ?_)
                  · skip
                    refine g_aload_n F 0 rfl rfl dX5_turn_227 ?_
                    refine g_get F hV iX5 0 rfl rfl 0 (by decide) (List.mem_of_getElem? (i := 1) rfl) rfl dX5_turn_228 ?_
                    refine g_iload_n F 3 rfl rfl dX5_turn_231 ?_
                    refine g_iload_n F 2 rfl rfl dX5_turn_232 ?_
                    refine g_iadd F dX5_turn_233 ?_
                    refine g_lload F 5 rfl dX5_turn_234 ?_
                    refine g_last F 1 rfl ((line * 6) + k) (by omega) (by omega) (by decide) (wT cA t (va_up (fillZ (mixZ (tnC t_ce t_sh t_nc line k t_bel (wyZ t_ce line k) pv) t_ce (t_nl * 6)) (line * 6) z 0) ((line * 6) + k) pv) (t_ti) (t_lo) (t_hi) (t_gl) (t_sh) (((t_nc : Nat) : Int)) (((t_nl : Nat) : Int)) (t_bel) (t_far)) rfl dX5_turn_236 ?_
                    refine g_aload_n F 0 rfl rfl dX5_turn_237 ?_
                    refine g_lload F 5 rfl dX5_turn_238 ?_
                    refine g_put F iX5 tyX5 tyX5_ok nmX5 0 rfl rfl 8 (by decide) (List.mem_of_getElem? (i := 2) rfl) rfl rfl rfl (Nat.le_of_ble_eq_true rfl) (wT cA t (va_up (fillZ (mixZ (tnC t_ce t_sh t_nc line k t_bel (wyZ t_ce line k) pv) t_ce (t_nl * 6)) (line * 6) z 0) ((line * 6) + k) pv) (t_ti) (t_lo) (t_hi) (t_gl) (t_sh) (((t_nc : Nat) : Int)) (((t_nl : Nat) : Int)) (pv) (t_far)) rfl dX5_turn_240 ?_
                    refine g_aload_n F 0 rfl rfl dX5_turn_243 ?_
                    refine g_get F hV iX5 0 rfl rfl 5 (by decide) (List.mem_of_getElem? (i := 5) rfl) rfl dX5_turn_244 ?_
                    refine g_iload_n F 2 rfl rfl dX5_turn_247 ?_
                    refine g_aload_n F 0 rfl rfl dX5_turn_248 ?_
                    refine g_get F hV iX5 0 rfl rfl 1 (by decide) (List.mem_of_getElem? (i := 6) rfl) rfl dX5_turn_249 ?_
                    refine g_iload_n F 1 rfl rfl dX5_turn_252 ?_
                    have r_6 := hti (line)
                    refine g_iald F hV 2 rfl (line) (by omega) (by omega) (by decide) dX5_turn_253 ?_
                    refine g_iconst F dX5_turn_254 ?_
                    refine g_icmp_ne F (tgt := 262) dX5_turn_255 (by decide) ⟨by omega, by omega⟩ ⟨by decide, by decide⟩ (fun c_7 => ?_) (fun c_7 => ?_)
                    · skip
                      refine g_iconst F dX5_turn_262 ?_
                      refine g_eq (st' := [iv (if t_ti line = 2 then 1 else 0), iv (((k : Nat) : Int)), .ref (t 6)]) rfl rfl (congrArg (fun zz => [iv zz, iv (((k : Nat) : Int)), .ref (t 6)]) (show (0 : Int) = if t_ti line = 2 then 1 else 0 from (by first | (rw [if_pos (by omega)]; done) | (rw [if_neg (by omega)]; done)))) ?_
                      refine g_zast F 6 rfl (k) (by split <;> simp) (by omega) (by omega) (by decide) (wT cA t (va_up (fillZ (mixZ (tnC t_ce t_sh t_nc line k t_bel (wyZ t_ce line k) pv) t_ce (t_nl * 6)) (line * 6) z 0) ((line * 6) + k) pv) (t_ti) (t_lo) (t_hi) (t_gl) (va_up t_sh k (if t_ti line = 2 then 1 else 0)) (((t_nc : Nat) : Int)) (((t_nl : Nat) : Int)) (pv) (t_far)) rfl dX5_turn_263 ?_
                      refine g_aload_n F 0 rfl rfl dX5_turn_264 ?_
                      refine g_aload_n F 0 rfl rfl dX5_turn_265 ?_
                      refine g_get F hV iX5 0 rfl rfl 9 (by decide) (List.mem_of_getElem? (i := 7) rfl) rfl dX5_turn_266 ?_
                      refine g_iload_n F 2 rfl rfl dX5_turn_269 ?_
                      refine g_icmp_ne F (tgt := 277) dX5_turn_270 (by decide) ⟨by omega, by omega⟩ ⟨by omega, by omega⟩ (fun c_8 => ?_) (fun c_8 => ?_)
                      · skip
                        refine g_aload_n F 0 rfl rfl dX5_turn_277 ?_
                        refine g_get F hV iX5 0 rfl rfl 9 (by decide) (List.mem_of_getElem? (i := 7) rfl) rfl dX5_turn_278 ?_
                        refine g_eq (st' := [iv (if t_far = (k : Int) then -1 else t_far), .ref (t 0)]) rfl rfl (congrArg (fun zz => [iv zz, .ref (t 0)]) (show (t_far : Int) = if t_far = (k : Int) then -1 else t_far from (by first | (rw [if_pos (by omega)]; done) | (rw [if_neg (by omega)]; done)))) ?_
                        refine g_put F iX5 tyX5 tyX5_ok nmX5 0 rfl rfl 9 (by decide) (List.mem_of_getElem? (i := 7) rfl) rfl rfl rfl (Nat.le_of_ble_eq_true rfl) (wT cA t (va_up (fillZ (mixZ (tnC t_ce t_sh t_nc line k t_bel (wyZ t_ce line k) pv) t_ce (t_nl * 6)) (line * 6) z 0) ((line * 6) + k) pv) (t_ti) (t_lo) (t_hi) (t_gl) (va_up t_sh k (if t_ti line = 2 then 1 else 0)) (((t_nc : Nat) : Int)) (((t_nl : Nat) : Int)) (pv) (if t_far = (k : Int) then -1 else t_far)) rfl dX5_turn_281 ?_
                        exact g_vret F rfl (by decide) (by decide) ⟨rfl, (by have hz6 : z = 6 := (by omega); subst hz6; subst hpv; rfl)⟩ dX5_turn_284
                      · skip
                        refine g_iconst F dX5_turn_273 ?_
                        refine g_goto F (tgt := 281) dX5_turn_274 (by decide) ?_
                        refine g_eq (st' := [iv (if t_far = (k : Int) then -1 else t_far), .ref (t 0)]) rfl rfl (congrArg (fun zz => [iv zz, .ref (t 0)]) (show (-1 : Int) = if t_far = (k : Int) then -1 else t_far from (by first | (rw [if_pos (by omega)]; done) | (rw [if_neg (by omega)]; done)))) ?_
                        refine g_put F iX5 tyX5 tyX5_ok nmX5 0 rfl rfl 9 (by decide) (List.mem_of_getElem? (i := 7) rfl) rfl rfl rfl (Nat.le_of_ble_eq_true rfl) (wT cA t (va_up (fillZ (mixZ (tnC t_ce t_sh t_nc line k t_bel (wyZ t_ce line k) pv) t_ce (t_nl * 6)) (line * 6) z 0) ((line * 6) + k) pv) (t_ti) (t_lo) (t_hi) (t_gl) (va_up t_sh k (if t_ti line = 2 then 1 else 0)) (((t_nc : Nat) : Int)) (((t_nl : Nat) : Int)) (pv) (if t_far = (k : Int) then -1 else t_far)) rfl dX5_turn_281 ?_
                        exact g_vret F rfl (by decide) (by decide) ⟨rfl, (by have hz6 : z = 6 := (by omega); subst hz6; subst hpv; rfl)⟩ dX5_turn_284
                    · skip
                      refine g_iconst F dX5_turn_258 ?_
                      refine g_goto F (tgt := 263) dX5_turn_259 (by decide) ?_
                      refine g_eq (st' := [iv (if t_ti line = 2 then 1 else 0), iv (((k : Nat) : Int)), .ref (t 6)]) rfl rfl (congrArg (fun zz => [iv zz, iv (((k : Nat) : Int)), .ref (t 6)]) (show (1 : Int) = if t_ti line = 2 then 1 else 0 from (by first | (rw [if_pos (by omega)]; done) | (rw [if_neg (by omega)]; done)))) ?_
                      refine g_zast F 6 rfl (k) (by split <;> simp) (by omega) (by omega) (by decide) (wT cA t (va_up (fillZ (mixZ (tnC t_ce t_sh t_nc line k t_bel (wyZ t_ce line k) pv) t_ce (t_nl * 6)) (line * 6) z 0) ((line * 6) + k) pv) (t_ti) (t_lo) (t_hi) (t_gl) (va_up t_sh k (if t_ti line = 2 then 1 else 0)) (((t_nc : Nat) : Int)) (((t_nl : Nat) : Int)) (pv) (t_far)) rfl dX5_turn_263 ?_
                      refine g_aload_n F 0 rfl rfl dX5_turn_264 ?_
                      refine g_aload_n F 0 rfl rfl dX5_turn_265 ?_
                      refine g_get F hV iX5 0 rfl rfl 9 (by decide) (List.mem_of_getElem? (i := 7) rfl) rfl dX5_turn_266 ?_
                      refine g_iload_n F 2 rfl rfl dX5_turn_269 ?_
                      refine g_icmp_ne F (tgt := 277) dX5_turn_270 (by decide) ⟨by omega, by omega⟩ ⟨by omega, by omega⟩ (fun c_9 => ?_) (fun c_9 => ?_)
                      · skip
                        refine g_aload_n F 0 rfl rfl dX5_turn_277 ?_
                        refine g_get F hV iX5 0 rfl rfl 9 (by decide) (List.mem_of_getElem? (i := 7) rfl) rfl dX5_turn_278 ?_
                        refine g_eq (st' := [iv (if t_far = (k : Int) then -1 else t_far), .ref (t 0)]) rfl rfl (congrArg (fun zz => [iv zz, .ref (t 0)]) (show (t_far : Int) = if t_far = (k : Int) then -1 else t_far from (by first | (rw [if_pos (by omega)]; done) | (rw [if_neg (by omega)]; done)))) ?_
                        refine g_put F iX5 tyX5 tyX5_ok nmX5 0 rfl rfl 9 (by decide) (List.mem_of_getElem? (i := 7) rfl) rfl rfl rfl (Nat.le_of_ble_eq_true rfl) (wT cA t (va_up (fillZ (mixZ (tnC t_ce t_sh t_nc line k t_bel (wyZ t_ce line k) pv) t_ce (t_nl * 6)) (line * 6) z 0) ((line * 6) + k) pv) (t_ti) (t_lo) (t_hi) (t_gl) (va_up t_sh k (if t_ti line = 2 then 1 else 0)) (((t_nc : Nat) : Int)) (((t_nl : Nat) : Int)) (pv) (if t_far = (k : Int) then -1 else t_far)) rfl dX5_turn_281 ?_
                        exact g_vret F rfl (by decide) (by decide) ⟨rfl, (by have hz6 : z = 6 := (by omega); subst hz6; subst hpv; rfl)⟩ dX5_turn_284
                      · skip
                        refine g_iconst F dX5_turn_273 ?_
                        refine g_goto F (tgt := 281) dX5_turn_274 (by decide) ?_
                        refine g_eq (st' := [iv (if t_far = (k : Int) then -1 else t_far), .ref (t 0)]) rfl rfl (congrArg (fun zz => [iv zz, .ref (t 0)]) (show (-1 : Int) = if t_far = (k : Int) then -1 else t_far from (by first | (rw [if_pos (by omega)]; done) | (rw [if_neg (by omega)]; done)))) ?_
                        refine g_put F iX5 tyX5 tyX5_ok nmX5 0 rfl rfl 9 (by decide) (List.mem_of_getElem? (i := 7) rfl) rfl rfl rfl (Nat.le_of_ble_eq_true rfl) (wT cA t (va_up (fillZ (mixZ (tnC t_ce t_sh t_nc line k t_bel (wyZ t_ce line k) pv) t_ce (t_nl * 6)) (line * 6) z 0) ((line * 6) + k) pv) (t_ti) (t_lo) (t_hi) (t_gl) (va_up t_sh k (if t_ti line = 2 then 1 else 0)) (((t_nc : Nat) : Int)) (((t_nl : Nat) : Int)) (pv) (if t_far = (k : Int) then -1 else t_far)) rfl dX5_turn_281 ?_
                        exact g_vret F rfl (by decide) (by decide) ⟨rfl, (by have hz6 : z = 6 := (by omega); subst hz6; subst hpv; rfl)⟩ dX5_turn_284
                  · skip
                    refine g_aload_n F 0 rfl rfl dX5_turn_211 ?_
                    refine g_get F hV iX5 0 rfl rfl 0 (by decide) (List.mem_of_getElem? (i := 1) rfl) rfl dX5_turn_212 ?_
                    refine g_iload_n F 3 rfl rfl dX5_turn_215 ?_
                    refine g_iload F 6 rfl dX5_turn_216 ?_
                    refine g_iadd F dX5_turn_218 ?_
                    refine g_lconst F (z := 0) dX5_turn_219 (by decide) ?_
                    refine g_last F 1 rfl ((line * 6) + z) (by omega) (by omega) (by decide) (wT cA t (va_up (fillZ (mixZ (tnC t_ce t_sh t_nc line k t_bel (wyZ t_ce line k) pv) t_ce (t_nl * 6)) (line * 6) z 0) ((line * 6) + z) 0) (t_ti) (t_lo) (t_hi) (t_gl) (t_sh) (((t_nc : Nat) : Int)) (((t_nl : Nat) : Int)) (t_bel) (t_far)) rfl dX5_turn_220 ?_
                    refine g_iinc F 6 rfl ([(7, iv ((((z : Nat) : Int)) + 1)), (0, .ref (t 0)), (1, iv (((line : Nat) : Int))), (2, iv (((k : Nat) : Int))), (3, iv ((((line : Nat) : Int)) * 6)), (4, iv (wyZ t_ce line k)), (5, jv (pv))]) rfl (by decide) dX5_turn_221 ?_
                    refine g_goto F (tgt := 204) dX5_turn_224 (by decide) ?_
                    refine g_lsub ([(0, .ref (t 0)), (1, iv (((line : Nat) : Int))), (2, iv (((k : Nat) : Int))), (3, iv ((((line : Nat) : Int)) * 6)), (4, iv (wyZ t_ce line k)), (5, jv (pv)), (7, iv ((((z : Nat) : Int)) + 1))]) [1, 2, 3, 4, 5, 6, 0] rfl ?_
                    exact ih204 (z + 1) (va_up (fillZ (mixZ (tnC t_ce t_sh t_nc line k t_bel (wyZ t_ce line k) pv) t_ce (t_nl * 6)) (line * 6) z 0) ((line * 6) + z) 0) (by omega) (fill_up _ _ _ _) (by omega)
              refine g_lsub ([(0, .ref (t 0)), (1, iv (((line : Nat) : Int))), (2, iv (((k : Nat) : Int))), (3, iv ((((line : Nat) : Int)) * 6)), (4, iv (wyZ t_ce line k)), (5, jv (pv)), (7, iv (0))]) [1, 2, 3, 4, 5, 6, 0] rfl ?_
              exact lp204 (_ + 1) 0 (mixZ (tnC t_ce t_sh t_nc line k t_bel (wyZ t_ce line k) pv) t_ce (t_nl * 6)) (by omega) (fill_0 _ _ _).symm (Nat.lt_succ_self _)
            · skip
              refine g_iload F 6 rfl dX5_turn_68 ?_
              refine g_bipush F dX5_turn_70 (by decide) ?_
              refine g_imul F dX5_turn_72 ?_
              refine g_istore F ([(8, iv ((((i : Nat) : Int)) * 6)), (0, .ref (t 0)), (1, iv (((line : Nat) : Int))), (2, iv (((k : Nat) : Int))), (3, iv ((((line : Nat) : Int)) * 6)), (4, iv (wyZ t_ce line k)), (5, jv (pv)), (7, iv (((i : Nat) : Int)))]) rfl (by decide) dX5_turn_73 ?_
              refine g_iload F 5 rfl dX5_turn_75 ?_
              refine g_i2l F ⟨by omega, by omega⟩ dX5_turn_77 ?_
              refine g_aload_n F 1 rfl rfl dX5_turn_78 ?_
              refine g_get F hV iX5 0 rfl rfl 0 (by decide) (List.mem_of_getElem? (i := 1) rfl) rfl dX5_turn_79 ?_
              refine g_iload F 0 rfl dX5_turn_82 ?_
              refine g_iload_n F 3 rfl rfl dX5_turn_84 ?_
              refine g_iadd F dX5_turn_85 ?_
              refine g_lald F hV 1 rfl ((i * 6) + k) (by omega) (by omega) (by decide) dX5_turn_86 ?_
              refine g_lmul F dX5_turn_87 ?_
              obtain ⟨fc, hfc⟩ : ∃ y : Int, y = (wyZ t_ce line k) * ((mixZ (tnC t_ce t_sh t_nc line k t_bel (wyZ t_ce line k) pv) t_ce (i * 6)) ((i * 6) + k)) := ⟨_, rfl⟩
              rw [← hfc]
              rw [mix_ge (by omega)] at hfc
              have hfb : fc.natAbs ≤ 8000000 := by rw [hfc, wyZ_abs]; have := hB i k hk; omega
              refine g_lstore F ([(9, jv (fc)), (8, iv ((((i : Nat) : Int)) * 6)), (0, .ref (t 0)), (1, iv (((line : Nat) : Int))), (2, iv (((k : Nat) : Int))), (3, iv ((((line : Nat) : Int)) * 6)), (4, iv (wyZ t_ce line k)), (5, jv (pv)), (7, iv (((i : Nat) : Int)))]) rfl (by decide) dX5_turn_88 ?_
              refine g_iload F 8 rfl dX5_turn_90 ?_
              refine g_iload_n F 3 rfl rfl dX5_turn_92 ?_
              refine g_icmp_eq F (tgt := 195) dX5_turn_93 (by decide) ⟨by omega, by omega⟩ ⟨by omega, by omega⟩ (fun c_10 => ?_) (fun c_10 => ?_)
              · skip
                refine g_iinc F 8 rfl ([(7, iv ((((i : Nat) : Int)) + 1)), (9, jv (fc)), (8, iv ((((i : Nat) : Int)) * 6)), (0, .ref (t 0)), (1, iv (((line : Nat) : Int))), (2, iv (((k : Nat) : Int))), (3, iv ((((line : Nat) : Int)) * 6)), (4, iv (wyZ t_ce line k)), (5, jv (pv))]) rfl (by decide) dX5_turn_195 ?_
                refine g_goto F (tgt := 59) dX5_turn_198 (by decide) ?_
                refine g_lsub ([(0, .ref (t 0)), (1, iv (((line : Nat) : Int))), (2, iv (((k : Nat) : Int))), (3, iv ((((line : Nat) : Int)) * 6)), (4, iv (wyZ t_ce line k)), (5, jv (pv)), (7, iv ((((i : Nat) : Int)) + 1))]) [3, 4, 5, 6, 7, 8, 0] rfl ?_
                exact ih59 (i + 1) (mixZ (tnC t_ce t_sh t_nc line k t_bel (wyZ t_ce line k) pv) t_ce (i * 6)) (by omega) (tn_row (by first | exact Or.inl (by omega) | exact Or.inr ⟨by rw [← hfc]; omega, by omega⟩)) (by omega)
              · skip
                refine g_lload F 0 rfl dX5_turn_96 ?_
                refine g_lconst F (z := 0) dX5_turn_98 (by decide) ?_
                refine g_lcmp_ne F (tgt := 113) dX5_turn_99 dX5_turn_100 (by decide) ⟨by omega, by omega⟩ ⟨by decide, by decide⟩ (fun c_11 => ?_) (fun c_11 => ?_)
                · skip
                  refine g_iconst F dX5_turn_113 ?_
                  refine g_istore F ([(11, iv (0)), (9, jv (fc)), (8, iv ((((i : Nat) : Int)) * 6)), (0, .ref (t 0)), (1, iv (((line : Nat) : Int))), (2, iv (((k : Nat) : Int))), (3, iv ((((line : Nat) : Int)) * 6)), (4, iv (wyZ t_ce line k)), (5, jv (pv)), (7, iv (((i : Nat) : Int)))]) rfl (by decide) dX5_turn_114 ?_
                  have lp116 : ∀ (n : Nat) (j : Nat) (cy : Nat → Int) (hj : j ≤ 6) (hcy : cy = mixZ (tnC t_ce t_sh t_nc line k t_bel (wyZ t_ce line k) pv) t_ce (i * 6 + j)), 6 - j < n → GW p_ l e_ (headSpec wsX5_turn ({ frames := 0, cells := 0, slots := 0, locals := 0 })).room s_ m_ ([.ref (t 0), iv (((line : Nat) : Int)), iv (((k : Nat) : Int))]).toArray b_ me_ c_ (MQ b_ (Qm D (fun ov ow => ov = none ∧ ow = wTS cA t t_nc (turnT t_nc line k (t_ce, t_ti, t_lo, t_hi, t_gl, t_sh, t_nl, t_bel, t_far))) A) ([.ref (t 0), iv (((line : Nat) : Int)), iv (((k : Nat) : Int))]).toArray s_ 0 0 A) (IM D s_ A) 12 0 0 (wT cA t (cy) (t_ti) (t_lo) (t_hi) (t_gl) (t_sh) (((t_nc : Nat) : Int)) (((t_nl : Nat) : Int)) (t_bel) (t_far)) ([(0, .ref (t 0)), (1, iv (((line : Nat) : Int))), (2, iv (((k : Nat) : Int))), (3, iv ((((line : Nat) : Int)) * 6)), (4, iv (wyZ t_ce line k)), (5, jv (pv)), (7, iv (((i : Nat) : Int))), (8, iv ((((i : Nat) : Int)) * 6)), (9, jv (fc)), (11, iv (((j : Nat) : Int)))]) [] 116 := by
                    intro n; induction n with
                    | zero => intro j cy; intros; omega
                    | succ n ih116 =>
                      intro j cy hj hcy hmu116
                      subst hcy
                      refine g_iload F 9 rfl dX5_turn_116 ?_
                      refine g_bipush F dX5_turn_118 (by decide) ?_
                      refine g_icmp_ge F (tgt := 195) dX5_turn_120 (by decide) ⟨by omega, by omega⟩ ⟨by decide, by decide⟩ (fun c_12 => ?_) (fun c_12 => ?_)
                      · skip
                        refine g_iinc F 6 rfl ([(7, iv ((((i : Nat) : Int)) + 1)), (0, .ref (t 0)), (1, iv (((line : Nat) : Int))), (2, iv (((k : Nat) : Int))), (3, iv ((((line : Nat) : Int)) * 6)), (4, iv (wyZ t_ce line k)), (5, jv (pv)), (8, iv ((((i : Nat) : Int)) * 6)), (9, jv (fc)), (11, iv (((j : Nat) : Int)))]) rfl (by decide) dX5_turn_195 ?_
                        refine g_goto F (tgt := 59) dX5_turn_198 (by decide) ?_
                        refine g_lsub ([(0, .ref (t 0)), (1, iv (((line : Nat) : Int))), (2, iv (((k : Nat) : Int))), (3, iv ((((line : Nat) : Int)) * 6)), (4, iv (wyZ t_ce line k)), (5, jv (pv)), (7, iv ((((i : Nat) : Int)) + 1))]) [1, 2, 3, 4, 5, 6, 0] rfl ?_
                        exact ih59 (i + 1) (mixZ (tnC t_ce t_sh t_nc line k t_bel (wyZ t_ce line k) pv) t_ce (i * 6 + j)) (by omega) (by have hj6 : j = 6 := (by omega); subst hj6; exact congrArg _ (show i * 6 + 6 = (i + 1) * 6 by omega)) (by omega)
                      · skip
                        refine g_iload F 9 rfl dX5_turn_123 ?_
                        refine g_iload_n F 2 rfl rfl dX5_turn_125 ?_
                        refine g_icmp_eq F (tgt := 189) dX5_turn_126 (by decide) ⟨by omega, by omega⟩ ⟨by omega, by omega⟩ (fun c_13 => ?_) (fun c_13 => ?_)
                        · skip
                          refine g_iinc F 9 rfl ([(11, iv ((((j : Nat) : Int)) + 1)), (0, .ref (t 0)), (1, iv (((line : Nat) : Int))), (2, iv (((k : Nat) : Int))), (3, iv ((((line : Nat) : Int)) * 6)), (4, iv (wyZ t_ce line k)), (5, jv (pv)), (7, iv (((i : Nat) : Int))), (8, iv ((((i : Nat) : Int)) * 6)), (9, jv (fc))]) rfl (by decide) dX5_turn_189 ?_
                          refine g_goto F (tgt := 116) dX5_turn_192 (by decide) ?_
                          refine g_lsub ([(0, .ref (t 0)), (1, iv (((line : Nat) : Int))), (2, iv (((k : Nat) : Int))), (3, iv ((((line : Nat) : Int)) * 6)), (4, iv (wyZ t_ce line k)), (5, jv (pv)), (7, iv (((i : Nat) : Int))), (8, iv ((((i : Nat) : Int)) * 6)), (9, jv (fc)), (11, iv ((((j : Nat) : Int)) + 1))]) [1, 2, 3, 4, 5, 6, 7, 8, 9, 0] rfl ?_
                          exact ih116 (j + 1) (mixZ (tnC t_ce t_sh t_nc line k t_bel (wyZ t_ce line k) pv) t_ce (i * 6 + j)) (by omega) (tn_skip (by omega) (by first | exact Or.inl (by omega) | exact Or.inr ⟨by omega, by omega⟩)) (by omega)
                        · skip
                          refine g_iload F 9 rfl dX5_turn_129 ?_
                          refine g_aload_n F 0 rfl rfl dX5_turn_131 ?_
                          refine g_get F hV iX5 0 rfl rfl 6 (by decide) (List.mem_of_getElem? (i := 4) rfl) rfl dX5_turn_132 ?_
                          refine g_icmp_ge F (tgt := 148) dX5_turn_135 (by decide) ⟨by omega, by omega⟩ ⟨by omega, by omega⟩ (fun c_14 => ?_) (fun c_14 => ?_)
                          · skip
                            refine g_aload_n F 0 rfl rfl dX5_turn_148 ?_
                            refine g_get F hV iX5 0 rfl rfl 0 (by decide) (List.mem_of_getElem? (i := 1) rfl) rfl dX5_turn_149 ?_
                            refine g_iload F 7 rfl dX5_turn_152 ?_
                            refine g_iload F 9 rfl dX5_turn_154 ?_
                            refine g_iadd F dX5_turn_156 ?_
                            refine g_lload F 5 rfl dX5_turn_157 ?_
                            refine g_aload_n F 0 rfl rfl dX5_turn_159 ?_
                            refine g_get F hV iX5 0 rfl rfl 0 (by decide) (List.mem_of_getElem? (i := 1) rfl) rfl dX5_turn_160 ?_
                            refine g_iload F 7 rfl dX5_turn_163 ?_
                            refine g_iload F 9 rfl dX5_turn_165 ?_
                            refine g_iadd F dX5_turn_167 ?_
                            refine g_lald F hV 1 rfl ((i * 6) + j) (by omega) (by omega) (by decide) dX5_turn_168 ?_
                            obtain ⟨u1, hu1⟩ : ∃ y : Int, y = (mixZ (tnC t_ce t_sh t_nc line k t_bel (wyZ t_ce line k) pv) t_ce (i * 6 + j)) ((i * 6) + j) := ⟨_, rfl⟩
                            rw [← hu1]
                            rw [mix_ge (by omega)] at hu1
                            have hbu1 : u1.natAbs ≤ 100000000000 := by rw [hu1]; rcases (show j < 5 ∨ j = 5 by omega) with w | w; (have := hB i j w; omega); (subst w; have := hC i; omega)
                            refine g_lmul F dX5_turn_169 ?_
                            refine g_lload F 8 rfl dX5_turn_170 ?_
                            refine g_aload_n F 0 rfl rfl dX5_turn_172 ?_
                            refine g_get F hV iX5 0 rfl rfl 0 (by decide) (List.mem_of_getElem? (i := 1) rfl) rfl dX5_turn_173 ?_
                            refine g_iload_n F 3 rfl rfl dX5_turn_176 ?_
                            refine g_iload F 9 rfl dX5_turn_177 ?_
                            refine g_iadd F dX5_turn_179 ?_
                            refine g_lald F hV 1 rfl ((line * 6) + j) (by omega) (by omega) (by decide) dX5_turn_180 ?_
                            obtain ⟨u2, hu2⟩ : ∃ y : Int, y = (mixZ (tnC t_ce t_sh t_nc line k t_bel (wyZ t_ce line k) pv) t_ce (i * 6 + j)) ((line * 6) + j) := ⟨_, rfl⟩
                            rw [← hu2]
                            rw [mix_line (by omega)] at hu2
                            have hbu2 : u2.natAbs ≤ 100000000000 := by rw [hu2]; rcases (show j < 5 ∨ j = 5 by omega) with w | w; (have := hB line j w; omega); (subst w; have := hC line; omega)
                            have hm1 := mul_nat (x := pv) (y := u1) (a := 8000000) (b := 100000000000) (by omega) hbu1
                            have hm2 := mul_nat (x := fc) (y := u2) (a := 8000000) (b := 100000000000) hfb hbu2
                            refine g_lmul F dX5_turn_181 ?_
                            refine g_lsub2 F dX5_turn_182 ?_
                            refine g_aload_n F 0 rfl rfl dX5_turn_183 ?_
                            refine g_get F hV iX5 0 rfl rfl 8 (by decide) (List.mem_of_getElem? (i := 2) rfl) rfl dX5_turn_184 ?_
                            refine g_ldiv F ⟨by omega, by omega⟩ ⟨by omega, by omega⟩ (by omega) (tdiv_64 ⟨by omega, by omega⟩ (by omega) (by omega)) dX5_turn_187 ?_
                            refine g_last F 1 rfl ((i * 6) + j) (by omega) (by omega) (by decide) (wT cA t (va_up (mixZ (tnC t_ce t_sh t_nc line k t_bel (wyZ t_ce line k) pv) t_ce (i * 6 + j)) ((i * 6) + j) (Int.tdiv ((pv * u1) - (fc * u2)) t_bel)) (t_ti) (t_lo) (t_hi) (t_gl) (t_sh) (((t_nc : Nat) : Int)) (((t_nl : Nat) : Int)) (t_bel) (t_far)) rfl dX5_turn_188 ?_
                            refine g_iinc F 9 rfl ([(11, iv ((((j : Nat) : Int)) + 1)), (0, .ref (t 0)), (1, iv (((line : Nat) : Int))), (2, iv (((k : Nat) : Int))), (3, iv ((((line : Nat) : Int)) * 6)), (4, iv (wyZ t_ce line k)), (5, jv (pv)), (7, iv (((i : Nat) : Int))), (8, iv ((((i : Nat) : Int)) * 6)), (9, jv (fc))]) rfl (by decide) dX5_turn_189 ?_
                            refine g_goto F (tgt := 116) dX5_turn_192 (by decide) ?_
                            refine g_lsub ([(0, .ref (t 0)), (1, iv (((line : Nat) : Int))), (2, iv (((k : Nat) : Int))), (3, iv ((((line : Nat) : Int)) * 6)), (4, iv (wyZ t_ce line k)), (5, jv (pv)), (7, iv (((i : Nat) : Int))), (8, iv ((((i : Nat) : Int)) * 6)), (9, jv (fc)), (11, iv ((((j : Nat) : Int)) + 1))]) [1, 2, 3, 4, 5, 6, 7, 8, 9, 0] rfl ?_
                            exact ih116 (j + 1) (va_up (mixZ (tnC t_ce t_sh t_nc line k t_bel (wyZ t_ce line k) pv) t_ce (i * 6 + j)) ((i * 6) + j) (Int.tdiv ((pv * u1) - (fc * u2)) t_bel)) (by omega) (tn_put (by omega) (by omega) (by rw [← hfc]; omega) (by omega) (by omega) (by rw [hu1, hu2, hfc])) (by omega)
                          · skip
                            refine g_aload_n F 0 rfl rfl dX5_turn_138 ?_
                            refine g_get F hV iX5 0 rfl rfl 5 (by decide) (List.mem_of_getElem? (i := 5) rfl) rfl dX5_turn_139 ?_
                            refine g_iload F 9 rfl dX5_turn_142 ?_
                            have r_15 := hsh (j)
                            refine g_zald F hV 6 rfl (j) (by omega) (by omega) (by decide) dX5_turn_144 ?_
                            refine g_if_ne F (tgt := 189) dX5_turn_145 (by decide) ⟨by omega, by omega⟩ (fun c_16 => ?_) (fun c_16 => ?_)
                            · skip
                              refine g_iinc F 9 rfl ([(11, iv ((((j : Nat) : Int)) + 1)), (0, .ref (t 0)), (1, iv (((line : Nat) : Int))), (2, iv (((k : Nat) : Int))), (3, iv ((((line : Nat) : Int)) * 6)), (4, iv (wyZ t_ce line k)), (5, jv (pv)), (7, iv (((i : Nat) : Int))), (8, iv ((((i : Nat) : Int)) * 6)), (9, jv (fc))]) rfl (by decide) dX5_turn_189 ?_
                              refine g_goto F (tgt := 116) dX5_turn_192 (by decide) ?_
                              refine g_lsub ([(0, .ref (t 0)), (1, iv (((line : Nat) : Int))), (2, iv (((k : Nat) : Int))), (3, iv ((((line : Nat) : Int)) * 6)), (4, iv (wyZ t_ce line k)), (5, jv (pv)), (7, iv (((i : Nat) : Int))), (8, iv ((((i : Nat) : Int)) * 6)), (9, jv (fc)), (11, iv ((((j : Nat) : Int)) + 1))]) [1, 2, 3, 4, 5, 6, 7, 8, 9, 0] rfl ?_
                              exact ih116 (j + 1) (mixZ (tnC t_ce t_sh t_nc line k t_bel (wyZ t_ce line k) pv) t_ce (i * 6 + j)) (by omega) (tn_skip (by omega) (by first | exact Or.inl (by omega) | exact Or.inr ⟨by omega, by omega⟩)) (by omega)
                            · skip
                              refine g_aload_n F 0 rfl rfl dX5_turn_148 ?_
                              refine g_get F hV iX5 0 rfl rfl 0 (by decide) (List.mem_of_getElem? (i := 1) rfl) rfl dX5_turn_149 ?_
                              refine g_iload F 7 rfl dX5_turn_152 ?_
                              refine g_iload F 9 rfl dX5_turn_154 ?_
                              refine g_iadd F dX5_turn_156 ?_
                              refine g_lload F 5 rfl dX5_turn_157 ?_
                              refine g_aload_n F 0 rfl rfl dX5_turn_159 ?_
                              refine g_get F hV iX5 0 rfl rfl 0 (by decide) (List.mem_of_getElem? (i := 1) rfl) rfl dX5_turn_160 ?_
                              refine g_iload F 7 rfl dX5_turn_163 ?_
                              refine g_iload F 9 rfl dX5_turn_165 ?_
                              refine g_iadd F dX5_turn_167 ?_
                              refine g_lald F hV 1 rfl ((i * 6) + j) (by omega) (by omega) (by decide) dX5_turn_168 ?_
                              obtain ⟨u1, hu1⟩ : ∃ y : Int, y = (mixZ (tnC t_ce t_sh t_nc line k t_bel (wyZ t_ce line k) pv) t_ce (i * 6 + j)) ((i * 6) + j) := ⟨_, rfl⟩
                              rw [← hu1]
                              rw [mix_ge (by omega)] at hu1
                              have hbu1 : u1.natAbs ≤ 100000000000 := by rw [hu1]; rcases (show j < 5 ∨ j = 5 by omega) with w | w; (have := hB i j w; omega); (subst w; have := hC i; omega)
                              refine g_lmul F dX5_turn_169 ?_
                              refine g_lload F 8 rfl dX5_turn_170 ?_
                              refine g_aload_n F 0 rfl rfl dX5_turn_172 ?_
                              refine g_get F hV iX5 0 rfl rfl 0 (by decide) (List.mem_of_getElem? (i := 1) rfl) rfl dX5_turn_173 ?_
                              refine g_iload_n F 3 rfl rfl dX5_turn_176 ?_
                              refine g_iload F 9 rfl dX5_turn_177 ?_
                              refine g_iadd F dX5_turn_179 ?_
                              refine g_lald F hV 1 rfl ((line * 6) + j) (by omega) (by omega) (by decide) dX5_turn_180 ?_
                              obtain ⟨u2, hu2⟩ : ∃ y : Int, y = (mixZ (tnC t_ce t_sh t_nc line k t_bel (wyZ t_ce line k) pv) t_ce (i * 6 + j)) ((line * 6) + j) := ⟨_, rfl⟩
                              rw [← hu2]
                              rw [mix_line (by omega)] at hu2
                              have hbu2 : u2.natAbs ≤ 100000000000 := by rw [hu2]; rcases (show j < 5 ∨ j = 5 by omega) with w | w; (have := hB line j w; omega); (subst w; have := hC line; omega)
                              have hm1 := mul_nat (x := pv) (y := u1) (a := 8000000) (b := 100000000000) (by omega) hbu1
                              have hm2 := mul_nat (x := fc) (y := u2) (a := 8000000) (b := 100000000000) hfb hbu2
                              refine g_lmul F dX5_turn_181 ?_
                              refine g_lsub2 F dX5_turn_182 ?_
                              refine g_aload_n F 0 rfl rfl dX5_turn_183 ?_
                              refine g_get F hV iX5 0 rfl rfl 8 (by decide) (List.mem_of_getElem? (i := 2) rfl) rfl dX5_turn_184 ?_
                              refine g_ldiv F ⟨by omega, by omega⟩ ⟨by omega, by omega⟩ (by omega) (tdiv_64 ⟨by omega, by omega⟩ (by omega) (by omega)) dX5_turn_187 ?_
                              refine g_last F 1 rfl ((i * 6) + j) (by omega) (by omega) (by decide) (wT cA t (va_up (mixZ (tnC t_ce t_sh t_nc line k t_bel (wyZ t_ce line k) pv) t_ce (i * 6 + j)) ((i * 6) + j) (Int.tdiv ((pv * u1) - (fc * u2)) t_bel)) (t_ti) (t_lo) (t_hi) (t_gl) (t_sh) (((t_nc : Nat) : Int)) (((t_nl : Nat) : Int)) (t_bel) (t_far)) rfl dX5_turn_188 ?_
                              refine g_iinc F 9 rfl ([(11, iv ((((j : Nat) : Int)) + 1)), (0, .ref (t 0)), (1, iv (((line : Nat) : Int))), (2, iv (((k : Nat) : Int))), (3, iv ((((line : Nat) : Int)) * 6)), (4, iv (wyZ t_ce line k)), (5, jv (pv)), (7, iv (((i : Nat) : Int))), (8, iv ((((i : Nat) : Int)) * 6)), (9, jv (fc))]) rfl (by decide) dX5_turn_189 ?_
                              refine g_goto F (tgt := 116) dX5_turn_192 (by decide) ?_
                              refine g_lsub ([(0, .ref (t 0)), (1, iv (((line : Nat) : Int))), (2, iv (((k : Nat) : Int))), (3, iv ((((line : Nat) : Int)) * 6)), (4, iv (wyZ t_ce line k)), (5, jv (pv)), (7, iv (((i : Nat) : Int))), (8, iv ((((i : Nat) : Int)) * 6)), (9, jv (fc)), (11, iv ((((j : Nat) : Int)) + 1))]) [1, 2, 3, 4, 5, 6, 7, 8, 9, 0] rfl ?_
                              exact ih116 (j + 1) (va_up (mixZ (tnC t_ce t_sh t_nc line k t_bel (wyZ t_ce line k) pv) t_ce (i * 6 + j)) ((i * 6) + j) (Int.tdiv ((pv * u1) - (fc * u2)) t_bel)) (by omega) (tn_put (by omega) (by omega) (by rw [← hfc]; omega) (by omega) (by omega) (by rw [hu1, hu2, hfc])) (by omega)
                  refine g_lsub ([(0, .ref (t 0)), (1, iv (((line : Nat) : Int))), (2, iv (((k : Nat) : Int))), (3, iv ((((line : Nat) : Int)) * 6)), (4, iv (wyZ t_ce line k)), (5, jv (pv)), (7, iv (((i : Nat) : Int))), (8, iv ((((i : Nat) : Int)) * 6)), (9, jv (fc)), (11, iv (0))]) [3, 4, 5, 6, 7, 8, 9, 2, 1, 0] rfl ?_
                  exact lp116 (_ + 1) 0 (mixZ (tnC t_ce t_sh t_nc line k t_bel (wyZ t_ce line k) pv) t_ce (i * 6)) (by omega) (rfl) (Nat.lt_succ_self _)
                · skip
                  refine g_lload F 7 rfl dX5_turn_103 ?_
                  refine g_aload_n F 2 rfl rfl dX5_turn_105 ?_
                  refine g_get F hV iX5 0 rfl rfl 8 (by decide) (List.mem_of_getElem? (i := 2) rfl) rfl dX5_turn_106 ?_
                  refine g_lcmp_eq F (tgt := 195) dX5_turn_109 dX5_turn_110 (by decide) ⟨by omega, by omega⟩ ⟨by omega, by omega⟩ (fun c_17 => ?_) (fun c_17 => ?_)
                  · skip
                    refine g_iinc F 8 rfl ([(7, iv ((((i : Nat) : Int)) + 1)), (9, jv (fc)), (8, iv ((((i : Nat) : Int)) * 6)), (0, .ref (t 0)), (1, iv (((line : Nat) : Int))), (2, iv (((k : Nat) : Int))), (3, iv ((((line : Nat) : Int)) * 6)), (4, iv (wyZ t_ce line k)), (5, jv (pv))]) rfl (by decide) dX5_turn_195 ?_
                    refine g_goto F (tgt := 59) dX5_turn_198 (by decide) ?_
                    refine g_lsub ([(0, .ref (t 0)), (1, iv (((line : Nat) : Int))), (2, iv (((k : Nat) : Int))), (3, iv ((((line : Nat) : Int)) * 6)), (4, iv (wyZ t_ce line k)), (5, jv (pv)), (7, iv ((((i : Nat) : Int)) + 1))]) [3, 4, 5, 6, 7, 8, 0] rfl ?_
                    exact ih59 (i + 1) (mixZ (tnC t_ce t_sh t_nc line k t_bel (wyZ t_ce line k) pv) t_ce (i * 6)) (by omega) (tn_row (by first | exact Or.inl (by omega) | exact Or.inr ⟨by rw [← hfc]; omega, by omega⟩)) (by omega)
                  · skip
                    refine g_iconst F dX5_turn_113 ?_
                    refine g_istore F ([(11, iv (0)), (9, jv (fc)), (8, iv ((((i : Nat) : Int)) * 6)), (0, .ref (t 0)), (1, iv (((line : Nat) : Int))), (2, iv (((k : Nat) : Int))), (3, iv ((((line : Nat) : Int)) * 6)), (4, iv (wyZ t_ce line k)), (5, jv (pv)), (7, iv (((i : Nat) : Int)))]) rfl (by decide) dX5_turn_114 ?_
                    have lp116 : ∀ (n : Nat) (j : Nat) (cy : Nat → Int) (hj : j ≤ 6) (hcy : cy = mixZ (tnC t_ce t_sh t_nc line k t_bel (wyZ t_ce line k) pv) t_ce (i * 6 + j)), 6 - j < n → GW p_ l e_ (headSpec wsX5_turn ({ frames := 0, cells := 0, slots := 0, locals := 0 })).room s_ m_ ([.ref (t 0), iv (((line : Nat) : Int)), iv (((k : Nat) : Int))]).toArray b_ me_ c_ (MQ b_ (Qm D (fun ov ow => ov = none ∧ ow = wTS cA t t_nc (turnT t_nc line k (t_ce, t_ti, t_lo, t_hi, t_gl, t_sh, t_nl, t_bel, t_far))) A) ([.ref (t 0), iv (((line : Nat) : Int)), iv (((k : Nat) : Int))]).toArray s_ 0 0 A) (IM D s_ A) 12 0 0 (wT cA t (cy) (t_ti) (t_lo) (t_hi) (t_gl) (t_sh) (((t_nc : Nat) : Int)) (((t_nl : Nat) : Int)) (t_bel) (t_far)) ([(0, .ref (t 0)), (1, iv (((line : Nat) : Int))), (2, iv (((k : Nat) : Int))), (3, iv ((((line : Nat) : Int)) * 6)), (4, iv (wyZ t_ce line k)), (5, jv (pv)), (7, iv (((i : Nat) : Int))), (8, iv ((((i : Nat) : Int)) * 6)), (9, jv (fc)), (11, iv (((j : Nat) : Int)))]) [] 116 := by
                      intro n; induction n with
                      | zero => intro j cy; intros; omega
                      | succ n ih116 =>
                        intro j cy hj hcy hmu116
                        subst hcy
                        refine g_iload F 9 rfl dX5_turn_116 ?_
                        refine g_bipush F dX5_turn_118 (by decide) ?_
                        refine g_icmp_ge F (tgt := 195) dX5_turn_120 (by decide) ⟨by omega, by omega⟩ ⟨by decide, by decide⟩ (fun c_18 => ?_) (fun c_18 => ?_)
                        · skip
                          refine g_iinc F 6 rfl ([(7, iv ((((i : Nat) : Int)) + 1)), (0, .ref (t 0)), (1, iv (((line : Nat) : Int))), (2, iv (((k : Nat) : Int))), (3, iv ((((line : Nat) : Int)) * 6)), (4, iv (wyZ t_ce line k)), (5, jv (pv)), (8, iv ((((i : Nat) : Int)) * 6)), (9, jv (fc)), (11, iv (((j : Nat) : Int)))]) rfl (by decide) dX5_turn_195 ?_
                          refine g_goto F (tgt := 59) dX5_turn_198 (by decide) ?_
                          refine g_lsub ([(0, .ref (t 0)), (1, iv (((line : Nat) : Int))), (2, iv (((k : Nat) : Int))), (3, iv ((((line : Nat) : Int)) * 6)), (4, iv (wyZ t_ce line k)), (5, jv (pv)), (7, iv ((((i : Nat) : Int)) + 1))]) [1, 2, 3, 4, 5, 6, 0] rfl ?_
                          exact ih59 (i + 1) (mixZ (tnC t_ce t_sh t_nc line k t_bel (wyZ t_ce line k) pv) t_ce (i * 6 + j)) (by omega) (by have hj6 : j = 6 := (by omega); subst hj6; exact congrArg _ (show i * 6 + 6 = (i + 1) * 6 by omega)) (by omega)
                        · skip
                          refine g_iload F 9 rfl dX5_turn_123 ?_
                          refine g_iload_n F 2 rfl rfl dX5_turn_125 ?_
                          refine g_icmp_eq F (tgt := 189) dX5_turn_126 (by decide) ⟨by omega, by omega⟩ ⟨by omega, by omega⟩ (fun c_19 => ?_) (fun c_19 => ?_)
                          · skip
                            refine g_iinc F 9 rfl ([(11, iv ((((j : Nat) : Int)) + 1)), (0, .ref (t 0)), (1, iv (((line : Nat) : Int))), (2, iv (((k : Nat) : Int))), (3, iv ((((line : Nat) : Int)) * 6)), (4, iv (wyZ t_ce line k)), (5, jv (pv)), (7, iv (((i : Nat) : Int))), (8, iv ((((i : Nat) : Int)) * 6)), (9, jv (fc))]) rfl (by decide) dX5_turn_189 ?_
                            refine g_goto F (tgt := 116) dX5_turn_192 (by decide) ?_
                            refine g_lsub ([(0, .ref (t 0)), (1, iv (((line : Nat) : Int))), (2, iv (((k : Nat) : Int))), (3, iv ((((line : Nat) : Int)) * 6)), (4, iv (wyZ t_ce line k)), (5, jv (pv)), (7, iv (((i : Nat) : Int))), (8, iv ((((i : Nat) : Int)) * 6)), (9, jv (fc)), (11, iv ((((j : Nat) : Int)) + 1))]) [1, 2, 3, 4, 5, 6, 7, 8, 9, 0] rfl ?_
                            exact ih116 (j + 1) (mixZ (tnC t_ce t_sh t_nc line k t_bel (wyZ t_ce line k) pv) t_ce (i * 6 + j)) (by omega) (tn_skip (by omega) (by first | exact Or.inl (by omega) | exact Or.inr ⟨by omega, by omega⟩)) (by omega)
                          · skip
                            refine g_iload F 9 rfl dX5_turn_129 ?_
                            refine g_aload_n F 0 rfl rfl dX5_turn_131 ?_
                            refine g_get F hV iX5 0 rfl rfl 6 (by decide) (List.mem_of_getElem? (i := 4) rfl) rfl dX5_turn_132 ?_
                            refine g_icmp_ge F (tgt := 148) dX5_turn_135 (by decide) ⟨by omega, by omega⟩ ⟨by omega, by omega⟩ (fun c_20 => ?_) (fun c_20 => ?_)
                            · skip
                              refine g_aload_n F 0 rfl rfl dX5_turn_148 ?_
                              refine g_get F hV iX5 0 rfl rfl 0 (by decide) (List.mem_of_getElem? (i := 1) rfl) rfl dX5_turn_149 ?_
                              refine g_iload F 7 rfl dX5_turn_152 ?_
                              refine g_iload F 9 rfl dX5_turn_154 ?_
                              refine g_iadd F dX5_turn_156 ?_
                              refine g_lload F 5 rfl dX5_turn_157 ?_
                              refine g_aload_n F 0 rfl rfl dX5_turn_159 ?_
                              refine g_get F hV iX5 0 rfl rfl 0 (by decide) (List.mem_of_getElem? (i := 1) rfl) rfl dX5_turn_160 ?_
                              refine g_iload F 7 rfl dX5_turn_163 ?_
                              refine g_iload F 9 rfl dX5_turn_165 ?_
                              refine g_iadd F dX5_turn_167 ?_
                              refine g_lald F hV 1 rfl ((i * 6) + j) (by omega) (by omega) (by decide) dX5_turn_168 ?_
                              obtain ⟨u1, hu1⟩ : ∃ y : Int, y = (mixZ (tnC t_ce t_sh t_nc line k t_bel (wyZ t_ce line k) pv) t_ce (i * 6 + j)) ((i * 6) + j) := ⟨_, rfl⟩
                              rw [← hu1]
                              rw [mix_ge (by omega)] at hu1
                              have hbu1 : u1.natAbs ≤ 100000000000 := by rw [hu1]; rcases (show j < 5 ∨ j = 5 by omega) with w | w; (have := hB i j w; omega); (subst w; have := hC i; omega)
                              refine g_lmul F dX5_turn_169 ?_
                              refine g_lload F 8 rfl dX5_turn_170 ?_
                              refine g_aload_n F 0 rfl rfl dX5_turn_172 ?_
                              refine g_get F hV iX5 0 rfl rfl 0 (by decide) (List.mem_of_getElem? (i := 1) rfl) rfl dX5_turn_173 ?_
                              refine g_iload_n F 3 rfl rfl dX5_turn_176 ?_
                              refine g_iload F 9 rfl dX5_turn_177 ?_
                              refine g_iadd F dX5_turn_179 ?_
                              refine g_lald F hV 1 rfl ((line * 6) + j) (by omega) (by omega) (by decide) dX5_turn_180 ?_
                              obtain ⟨u2, hu2⟩ : ∃ y : Int, y = (mixZ (tnC t_ce t_sh t_nc line k t_bel (wyZ t_ce line k) pv) t_ce (i * 6 + j)) ((line * 6) + j) := ⟨_, rfl⟩
                              rw [← hu2]
                              rw [mix_line (by omega)] at hu2
                              have hbu2 : u2.natAbs ≤ 100000000000 := by rw [hu2]; rcases (show j < 5 ∨ j = 5 by omega) with w | w; (have := hB line j w; omega); (subst w; have := hC line; omega)
                              have hm1 := mul_nat (x := pv) (y := u1) (a := 8000000) (b := 100000000000) (by omega) hbu1
                              have hm2 := mul_nat (x := fc) (y := u2) (a := 8000000) (b := 100000000000) hfb hbu2
                              refine g_lmul F dX5_turn_181 ?_
                              refine g_lsub2 F dX5_turn_182 ?_
                              refine g_aload_n F 0 rfl rfl dX5_turn_183 ?_
                              refine g_get F hV iX5 0 rfl rfl 8 (by decide) (List.mem_of_getElem? (i := 2) rfl) rfl dX5_turn_184 ?_
                              refine g_ldiv F ⟨by omega, by omega⟩ ⟨by omega, by omega⟩ (by omega) (tdiv_64 ⟨by omega, by omega⟩ (by omega) (by omega)) dX5_turn_187 ?_
                              refine g_last F 1 rfl ((i * 6) + j) (by omega) (by omega) (by decide) (wT cA t (va_up (mixZ (tnC t_ce t_sh t_nc line k t_bel (wyZ t_ce line k) pv) t_ce (i * 6 + j)) ((i * 6) + j) (Int.tdiv ((pv * u1) - (fc * u2)) t_bel)) (t_ti) (t_lo) (t_hi) (t_gl) (t_sh) (((t_nc : Nat) : Int)) (((t_nl : Nat) : Int)) (t_bel) (t_far)) rfl dX5_turn_188 ?_
                              refine g_iinc F 9 rfl ([(11, iv ((((j : Nat) : Int)) + 1)), (0, .ref (t 0)), (1, iv (((line : Nat) : Int))), (2, iv (((k : Nat) : Int))), (3, iv ((((line : Nat) : Int)) * 6)), (4, iv (wyZ t_ce line k)), (5, jv (pv)), (7, iv (((i : Nat) : Int))), (8, iv ((((i : Nat) : Int)) * 6)), (9, jv (fc))]) rfl (by decide) dX5_turn_189 ?_
                              refine g_goto F (tgt := 116) dX5_turn_192 (by decide) ?_
                              refine g_lsub ([(0, .ref (t 0)), (1, iv (((line : Nat) : Int))), (2, iv (((k : Nat) : Int))), (3, iv ((((line : Nat) : Int)) * 6)), (4, iv (wyZ t_ce line k)), (5, jv (pv)), (7, iv (((i : Nat) : Int))), (8, iv ((((i : Nat) : Int)) * 6)), (9, jv (fc)), (11, iv ((((j : Nat) : Int)) + 1))]) [1, 2, 3, 4, 5, 6, 7, 8, 9, 0] rfl ?_
                              exact ih116 (j + 1) (va_up (mixZ (tnC t_ce t_sh t_nc line k t_bel (wyZ t_ce line k) pv) t_ce (i * 6 + j)) ((i * 6) + j) (Int.tdiv ((pv * u1) - (fc * u2)) t_bel)) (by omega) (tn_put (by omega) (by omega) (by rw [← hfc]; omega) (by omega) (by omega) (by rw [hu1, hu2, hfc])) (by omega)
                            · skip
                              refine g_aload_n F 0 rfl rfl dX5_turn_138 ?_
                              refine g_get F hV iX5 0 rfl rfl 5 (by decide) (List.mem_of_getElem? (i := 5) rfl) rfl dX5_turn_139 ?_
                              refine g_iload F 9 rfl dX5_turn_142 ?_
                              have r_21 := hsh (j)
                              refine g_zald F hV 6 rfl (j) (by omega) (by omega) (by decide) dX5_turn_144 ?_
                              refine g_if_ne F (tgt := 189) dX5_turn_145 (by decide) ⟨by omega, by omega⟩ (fun c_22 => ?_) (fun c_22 => ?_)
                              · skip
                                refine g_iinc F 9 rfl ([(11, iv ((((j : Nat) : Int)) + 1)), (0, .ref (t 0)), (1, iv (((line : Nat) : Int))), (2, iv (((k : Nat) : Int))), (3, iv ((((line : Nat) : Int)) * 6)), (4, iv (wyZ t_ce line k)), (5, jv (pv)), (7, iv (((i : Nat) : Int))), (8, iv ((((i : Nat) : Int)) * 6)), (9, jv (fc))]) rfl (by decide) dX5_turn_189 ?_
                                refine g_goto F (tgt := 116) dX5_turn_192 (by decide) ?_
                                refine g_lsub ([(0, .ref (t 0)), (1, iv (((line : Nat) : Int))), (2, iv (((k : Nat) : Int))), (3, iv ((((line : Nat) : Int)) * 6)), (4, iv (wyZ t_ce line k)), (5, jv (pv)), (7, iv (((i : Nat) : Int))), (8, iv ((((i : Nat) : Int)) * 6)), (9, jv (fc)), (11, iv ((((j : Nat) : Int)) + 1))]) [1, 2, 3, 4, 5, 6, 7, 8, 9, 0] rfl ?_
                                exact ih116 (j + 1) (mixZ (tnC t_ce t_sh t_nc line k t_bel (wyZ t_ce line k) pv) t_ce (i * 6 + j)) (by omega) (tn_skip (by omega) (by first | exact Or.inl (by omega) | exact Or.inr ⟨by omega, by omega⟩)) (by omega)
                              · skip
                                refine g_aload_n F 0 rfl rfl dX5_turn_148 ?_
                                refine g_get F hV iX5 0 rfl rfl 0 (by decide) (List.mem_of_getElem? (i := 1) rfl) rfl dX5_turn_149 ?_
                                refine g_iload F 7 rfl dX5_turn_152 ?_
                                refine g_iload F 9 rfl dX5_turn_154 ?_
                                refine g_iadd F dX5_turn_156 ?_
                                refine g_lload F 5 rfl dX5_turn_157 ?_
                                refine g_aload_n F 0 rfl rfl dX5_turn_159 ?_
                                refine g_get F hV iX5 0 rfl rfl 0 (by decide) (List.mem_of_getElem? (i := 1) rfl) rfl dX5_turn_160 ?_
                                refine g_iload F 7 rfl dX5_turn_163 ?_
                                refine g_iload F 9 rfl dX5_turn_165 ?_
                                refine g_iadd F dX5_turn_167 ?_
                                refine g_lald F hV 1 rfl ((i * 6) + j) (by omega) (by omega) (by decide) dX5_turn_168 ?_
                                obtain ⟨u1, hu1⟩ : ∃ y : Int, y = (mixZ (tnC t_ce t_sh t_nc line k t_bel (wyZ t_ce line k) pv) t_ce (i * 6 + j)) ((i * 6) + j) := ⟨_, rfl⟩
                                rw [← hu1]
                                rw [mix_ge (by omega)] at hu1
                                have hbu1 : u1.natAbs ≤ 100000000000 := by rw [hu1]; rcases (show j < 5 ∨ j = 5 by omega) with w | w; (have := hB i j w; omega); (subst w; have := hC i; omega)
                                refine g_lmul F dX5_turn_169 ?_
                                refine g_lload F 8 rfl dX5_turn_170 ?_
                                refine g_aload_n F 0 rfl rfl dX5_turn_172 ?_
                                refine g_get F hV iX5 0 rfl rfl 0 (by decide) (List.mem_of_getElem? (i := 1) rfl) rfl dX5_turn_173 ?_
                                refine g_iload_n F 3 rfl rfl dX5_turn_176 ?_
                                refine g_iload F 9 rfl dX5_turn_177 ?_
                                refine g_iadd F dX5_turn_179 ?_
                                refine g_lald F hV 1 rfl ((line * 6) + j) (by omega) (by omega) (by decide) dX5_turn_180 ?_
                                obtain ⟨u2, hu2⟩ : ∃ y : Int, y = (mixZ (tnC t_ce t_sh t_nc line k t_bel (wyZ t_ce line k) pv) t_ce (i * 6 + j)) ((line * 6) + j) := ⟨_, rfl⟩
                                rw [← hu2]
                                rw [mix_line (by omega)] at hu2
                                have hbu2 : u2.natAbs ≤ 100000000000 := by rw [hu2]; rcases (show j < 5 ∨ j = 5 by omega) with w | w; (have := hB line j w; omega); (subst w; have := hC line; omega)
                                have hm1 := mul_nat (x := pv) (y := u1) (a := 8000000) (b := 100000000000) (by omega) hbu1
                                have hm2 := mul_nat (x := fc) (y := u2) (a := 8000000) (b := 100000000000) hfb hbu2
                                refine g_lmul F dX5_turn_181 ?_
                                refine g_lsub2 F dX5_turn_182 ?_
                                refine g_aload_n F 0 rfl rfl dX5_turn_183 ?_
                                refine g_get F hV iX5 0 rfl rfl 8 (by decide) (List.mem_of_getElem? (i := 2) rfl) rfl dX5_turn_184 ?_
                                refine g_ldiv F ⟨by omega, by omega⟩ ⟨by omega, by omega⟩ (by omega) (tdiv_64 ⟨by omega, by omega⟩ (by omega) (by omega)) dX5_turn_187 ?_
                                refine g_last F 1 rfl ((i * 6) + j) (by omega) (by omega) (by decide) (wT cA t (va_up (mixZ (tnC t_ce t_sh t_nc line k t_bel (wyZ t_ce line k) pv) t_ce (i * 6 + j)) ((i * 6) + j) (Int.tdiv ((pv * u1) - (fc * u2)) t_bel)) (t_ti) (t_lo) (t_hi) (t_gl) (t_sh) (((t_nc : Nat) : Int)) (((t_nl : Nat) : Int)) (t_bel) (t_far)) rfl dX5_turn_188 ?_
                                refine g_iinc F 9 rfl ([(11, iv ((((j : Nat) : Int)) + 1)), (0, .ref (t 0)), (1, iv (((line : Nat) : Int))), (2, iv (((k : Nat) : Int))), (3, iv ((((line : Nat) : Int)) * 6)), (4, iv (wyZ t_ce line k)), (5, jv (pv)), (7, iv (((i : Nat) : Int))), (8, iv ((((i : Nat) : Int)) * 6)), (9, jv (fc))]) rfl (by decide) dX5_turn_189 ?_
                                refine g_goto F (tgt := 116) dX5_turn_192 (by decide) ?_
                                refine g_lsub ([(0, .ref (t 0)), (1, iv (((line : Nat) : Int))), (2, iv (((k : Nat) : Int))), (3, iv ((((line : Nat) : Int)) * 6)), (4, iv (wyZ t_ce line k)), (5, jv (pv)), (7, iv (((i : Nat) : Int))), (8, iv ((((i : Nat) : Int)) * 6)), (9, jv (fc)), (11, iv ((((j : Nat) : Int)) + 1))]) [1, 2, 3, 4, 5, 6, 7, 8, 9, 0] rfl ?_
                                exact ih116 (j + 1) (va_up (mixZ (tnC t_ce t_sh t_nc line k t_bel (wyZ t_ce line k) pv) t_ce (i * 6 + j)) ((i * 6) + j) (Int.tdiv ((pv * u1) - (fc * u2)) t_bel)) (by omega) (tn_put (by omega) (by omega) (by rw [← hfc]; omega) (by omega) (by omega) (by rw [hu1, hu2, hfc])) (by omega)
                    refine g_lsub ([(0, .ref (t 0)), (1, iv (((line : Nat) : Int))), (2, iv (((k : Nat) : Int))), (3, iv ((((line : Nat) : Int)) * 6)), (4, iv (wyZ t_ce line k)), (5, jv (pv)), (7, iv (((i : Nat) : Int))), (8, iv ((((i : Nat) : Int)) * 6)), (9, jv (fc)), (11, iv (0))]) [3, 4, 5, 6, 7, 8, 9, 2, 1, 0] rfl ?_
                    exact lp116 (_ + 1) 0 (mixZ (tnC t_ce t_sh t_nc line k t_bel (wyZ t_ce line k) pv) t_ce (i * 6)) (by omega) (rfl) (Nat.lt_succ_self _)
        refine g_lsub ([(0, .ref (t 0)), (1, iv (((line : Nat) : Int))), (2, iv (((k : Nat) : Int))), (3, iv ((((line : Nat) : Int)) * 6)), (4, iv (wyZ t_ce line k)), (5, jv (pv)), (7, iv (0))]) [4, 5, 6, 3, 2, 1, 0] rfl ?_
        exact lp59 (_ + 1) 0 t_ce (by omega) (mix_0 _ _).symm (Nat.lt_succ_self _)
      · skip
        exact absurd c_3 (by omega)
  · skip
    refine g_iconst F dX5_turn_18 ?_
    refine g_goto F (tgt := 23) dX5_turn_19 (by decide) ?_
    refine g_eq (st' := [iv (wyZ t_ce line k)]) rfl rfl (congrArg (fun zz => [iv zz]) (show (-1 : Int) = wyZ t_ce line k from (by unfold wyZ; first | (rw [if_pos (by omega)]; done) | (rw [if_neg (by omega)]; done)))) ?_
    refine g_istore F ([(4, iv (wyZ t_ce line k)), (3, iv ((((line : Nat) : Int)) * 6)), (0, .ref (t 0)), (1, iv (((line : Nat) : Int))), (2, iv (((k : Nat) : Int)))]) rfl (by decide) dX5_turn_23 ?_
    refine g_iload F 0 rfl dX5_turn_25 ?_
    refine g_i2l F ⟨by omega, by omega⟩ dX5_turn_27 ?_
    refine g_aload_n F 2 rfl rfl dX5_turn_28 ?_
    refine g_get F hV iX5 0 rfl rfl 0 (by decide) (List.mem_of_getElem? (i := 1) rfl) rfl dX5_turn_29 ?_
    refine g_iload_n F 1 rfl rfl dX5_turn_32 ?_
    refine g_iload_n F 4 rfl rfl dX5_turn_33 ?_
    refine g_iadd F dX5_turn_34 ?_
    refine g_lald F hV 1 rfl ((line * 6) + k) (by omega) (by omega) (by decide) dX5_turn_35 ?_
    refine g_lmul F dX5_turn_36 ?_
    obtain ⟨pv, hpv⟩ : ∃ y : Int, y = (wyZ t_ce line k) * (t_ce ((line * 6) + k)) := ⟨_, rfl⟩
    rw [← hpv]
    have hpb : 0 < pv ∧ pv ≤ 8000000 := by rw [hpv, hwp.2]; omega
    refine g_lstore F ([(5, jv (pv)), (4, iv (wyZ t_ce line k)), (3, iv ((((line : Nat) : Int)) * 6)), (0, .ref (t 0)), (1, iv (((line : Nat) : Int))), (2, iv (((k : Nat) : Int)))]) rfl (by decide) dX5_turn_37 ?_
    refine g_lload F 0 rfl dX5_turn_39 ?_
    refine g_lconst F (z := 0) dX5_turn_41 (by decide) ?_
    refine g_lcmp_eq F (tgt := 55) dX5_turn_42 dX5_turn_43 (by decide) ⟨by omega, by omega⟩ ⟨by decide, by decide⟩ (fun c_23 => ?_) (fun c_23 => ?_)
    · skip
      exact absurd c_23 (by omega)
    · skip
      refine g_aload_n F 3 rfl rfl dX5_turn_46 ?_
      refine g_get F hV iX5 0 rfl rfl 8 (by decide) (List.mem_of_getElem? (i := 2) rfl) rfl dX5_turn_47 ?_
      refine g_lconst F (z := 0) dX5_turn_50 (by decide) ?_
      refine g_lcmp_ne F (tgt := 56) dX5_turn_51 dX5_turn_52 (by decide) ⟨by omega, by omega⟩ ⟨by decide, by decide⟩ (fun c_24 => ?_) (fun c_24 => ?_)
      · skip
        refine g_iconst F dX5_turn_56 ?_
        refine g_istore F ([(7, iv (0)), (5, jv (pv)), (4, iv (wyZ t_ce line k)), (3, iv ((((line : Nat) : Int)) * 6)), (0, .ref (t 0)), (1, iv (((line : Nat) : Int))), (2, iv (((k : Nat) : Int)))]) rfl (by decide) dX5_turn_57 ?_
        have lp59 : ∀ (n : Nat) (i : Nat) (cx : Nat → Int) (hi : i ≤ t_nl) (hcx : cx = mixZ (tnC t_ce t_sh t_nc line k t_bel (wyZ t_ce line k) pv) t_ce (i * 6)), t_nl - i < n → GW p_ l e_ (headSpec wsX5_turn ({ frames := 0, cells := 0, slots := 0, locals := 0 })).room s_ m_ ([.ref (t 0), iv (((line : Nat) : Int)), iv (((k : Nat) : Int))]).toArray b_ me_ c_ (MQ b_ (Qm D (fun ov ow => ov = none ∧ ow = wTS cA t t_nc (turnT t_nc line k (t_ce, t_ti, t_lo, t_hi, t_gl, t_sh, t_nl, t_bel, t_far))) A) ([.ref (t 0), iv (((line : Nat) : Int)), iv (((k : Nat) : Int))]).toArray s_ 0 0 A) (IM D s_ A) 12 0 0 (wT cA t (cx) (t_ti) (t_lo) (t_hi) (t_gl) (t_sh) (((t_nc : Nat) : Int)) (((t_nl : Nat) : Int)) (t_bel) (t_far)) ([(0, .ref (t 0)), (1, iv (((line : Nat) : Int))), (2, iv (((k : Nat) : Int))), (3, iv ((((line : Nat) : Int)) * 6)), (4, iv (wyZ t_ce line k)), (5, jv (pv)), (7, iv (((i : Nat) : Int)))]) [] 59 := by
          intro n; induction n with
          | zero => intro i cx; intros; omega
          | succ n ih59 =>
            intro i cx hi hcx hmu59
            subst hcx
            refine g_iload F 6 rfl dX5_turn_59 ?_
            refine g_aload_n F 0 rfl rfl dX5_turn_61 ?_
            refine g_get F hV iX5 0 rfl rfl 7 (by decide) (List.mem_of_getElem? (i := 3) rfl) rfl dX5_turn_62 ?_
            refine g_icmp_ge F (tgt := 201) dX5_turn_65 (by decide) ⟨by omega, by omega⟩ ⟨by omega, by omega⟩ (fun c_25 => ?_) (fun c_25 => ?_)
            · skip
              have hie : t_nl = i := by omega
              subst hie
              refine g_iconst F dX5_turn_201 ?_
              refine g_istore F ([(7, iv (0)), (0, .ref (t 0)), (1, iv (((line : Nat) : Int))), (2, iv (((k : Nat) : Int))), (3, iv ((((line : Nat) : Int)) * 6)), (4, iv (wyZ t_ce line k)), (5, jv (pv))]) rfl (by decide) dX5_turn_202 ?_
              have lp204 : ∀ (n : Nat) (z : Nat) (cz : Nat → Int) (hz : z ≤ 6) (hcz : cz = fillZ (mixZ (tnC t_ce t_sh t_nc line k t_bel (wyZ t_ce line k) pv) t_ce (t_nl * 6)) (line * 6) z 0), 6 - z < n → GW p_ l e_ (headSpec wsX5_turn ({ frames := 0, cells := 0, slots := 0, locals := 0 })).room s_ m_ ([.ref (t 0), iv (((line : Nat) : Int)), iv (((k : Nat) : Int))]).toArray b_ me_ c_ (MQ b_ (Qm D (fun ov ow => ov = none ∧ ow = wTS cA t t_nc (turnT t_nc line k (t_ce, t_ti, t_lo, t_hi, t_gl, t_sh, t_nl, t_bel, t_far))) A) ([.ref (t 0), iv (((line : Nat) : Int)), iv (((k : Nat) : Int))]).toArray s_ 0 0 A) (IM D s_ A) 12 0 0 (wT cA t (cz) (t_ti) (t_lo) (t_hi) (t_gl) (t_sh) (((t_nc : Nat) : Int)) (((t_nl : Nat) : Int)) (t_bel) (t_far)) ([(0, .ref (t 0)), (1, iv (((line : Nat) : Int))), (2, iv (((k : Nat) : Int))), (3, iv ((((line : Nat) : Int)) * 6)), (4, iv (wyZ t_ce line k)), (5, jv (pv)), (7, iv (((z : Nat) : Int)))]) [] 204 := by
                intro n; induction n with
                | zero => intro z cz; intros; omega
                | succ n ih204 =>
                  intro z cz hz hcz hmu204
                  subst hcz
                  refine g_iload F 6 rfl dX5_turn_204 ?_
                  refine g_bipush F dX5_turn_206 (by decide) ?_
                  refine g_icmp_ge F (tgt := 227) dX5_turn_208 (by decide) ⟨by omega, by omega⟩ ⟨by decide, by decide⟩ (fun c_26 => ?_) (fun c_26 => ?_)
                  · skip
                    refine g_aload_n F 0 rfl rfl dX5_turn_227 ?_
                    refine g_get F hV iX5 0 rfl rfl 0 (by decide) (List.mem_of_getElem? (i := 1) rfl) rfl dX5_turn_228 ?_
                    refine g_iload_n F 3 rfl rfl dX5_turn_231 ?_
                    refine g_iload_n F 2 rfl rfl dX5_turn_232 ?_
                    refine g_iadd F dX5_turn_233 ?_
                    refine g_lload F 5 rfl dX5_turn_234 ?_
                    refine g_last F 1 rfl ((line * 6) + k) (by omega) (by omega) (by decide) (wT cA t (va_up (fillZ (mixZ (tnC t_ce t_sh t_nc line k t_bel (wyZ t_ce line k) pv) t_ce (t_nl * 6)) (line * 6) z 0) ((line * 6) + k) pv) (t_ti) (t_lo) (t_hi) (t_gl) (t_sh) (((t_nc : Nat) : Int)) (((t_nl : Nat) : Int)) (t_bel) (t_far)) rfl dX5_turn_236 ?_
                    refine g_aload_n F 0 rfl rfl dX5_turn_237 ?_
                    refine g_lload F 5 rfl dX5_turn_238 ?_
                    refine g_put F iX5 tyX5 tyX5_ok nmX5 0 rfl rfl 8 (by decide) (List.mem_of_getElem? (i := 2) rfl) rfl rfl rfl (Nat.le_of_ble_eq_true rfl) (wT cA t (va_up (fillZ (mixZ (tnC t_ce t_sh t_nc line k t_bel (wyZ t_ce line k) pv) t_ce (t_nl * 6)) (line * 6) z 0) ((line * 6) + k) pv) (t_ti) (t_lo) (t_hi) (t_gl) (t_sh) (((t_nc : Nat) : Int)) (((t_nl : Nat) : Int)) (pv) (t_far)) rfl dX5_turn_240 ?_
                    refine g_aload_n F 0 rfl rfl dX5_turn_243 ?_
                    refine g_get F hV iX5 0 rfl rfl 5 (by decide) (List.mem_of_getElem? (i := 5) rfl) rfl dX5_turn_244 ?_
                    refine g_iload_n F 2 rfl rfl dX5_turn_247 ?_
                    refine g_aload_n F 0 rfl rfl dX5_turn_248 ?_
                    refine g_get F hV iX5 0 rfl rfl 1 (by decide) (List.mem_of_getElem? (i := 6) rfl) rfl dX5_turn_249 ?_
                    refine g_iload_n F 1 rfl rfl dX5_turn_252 ?_
                    have r_27 := hti (line)
                    refine g_iald F hV 2 rfl (line) (by omega) (by omega) (by decide) dX5_turn_253 ?_
                    refine g_iconst F dX5_turn_254 ?_
                    refine g_icmp_ne F (tgt := 262) dX5_turn_255 (by decide) ⟨by omega, by omega⟩ ⟨by decide, by decide⟩ (fun c_28 => ?_) (fun c_28 => ?_)
                    · skip
                      refine g_iconst F dX5_turn_262 ?_
                      refine g_eq (st' := [iv (if t_ti line = 2 then 1 else 0), iv (((k : Nat) : Int)), .ref (t 6)]) rfl rfl (congrArg (fun zz => [iv zz, iv (((k : Nat) : Int)), .ref (t 6)]) (show (0 : Int) = if t_ti line = 2 then 1 else 0 from (by first | (rw [if_pos (by omega)]; done) | (rw [if_neg (by omega)]; done)))) ?_
                      refine g_zast F 6 rfl (k) (by split <;> simp) (by omega) (by omega) (by decide) (wT cA t (va_up (fillZ (mixZ (tnC t_ce t_sh t_nc line k t_bel (wyZ t_ce line k) pv) t_ce (t_nl * 6)) (line * 6) z 0) ((line * 6) + k) pv) (t_ti) (t_lo) (t_hi) (t_gl) (va_up t_sh k (if t_ti line = 2 then 1 else 0)) (((t_nc : Nat) : Int)) (((t_nl : Nat) : Int)) (pv) (t_far)) rfl dX5_turn_263 ?_
                      refine g_aload_n F 0 rfl rfl dX5_turn_264 ?_
                      refine g_aload_n F 0 rfl rfl dX5_turn_265 ?_
                      refine g_get F hV iX5 0 rfl rfl 9 (by decide) (List.mem_of_getElem? (i := 7) rfl) rfl dX5_turn_266 ?_
                      refine g_iload_n F 2 rfl rfl dX5_turn_269 ?_
                      refine g_icmp_ne F (tgt := 277) dX5_turn_270 (by decide) ⟨by omega, by omega⟩ ⟨by omega, by omega⟩ (fun c_29 => ?_) (fun c_29 => ?_)
                      · skip
                        refine g_aload_n F 0 rfl rfl dX5_turn_277 ?_
                        refine g_get F hV iX5 0 rfl rfl 9 (by decide) (List.mem_of_getElem? (i := 7) rfl) rfl dX5_turn_278 ?_
                        refine g_eq (st' := [iv (if t_far = (k : Int) then -1 else t_far), .ref (t 0)]) rfl rfl (congrArg (fun zz => [iv zz, .ref (t 0)]) (show (t_far : Int) = if t_far = (k : Int) then -1 else t_far from (by first | (rw [if_pos (by omega)]; done) | (rw [if_neg (by omega)]; done)))) ?_
                        refine g_put F iX5 tyX5 tyX5_ok nmX5 0 rfl rfl 9 (by decide) (List.mem_of_getElem? (i := 7) rfl) rfl rfl rfl (Nat.le_of_ble_eq_true rfl) (wT cA t (va_up (fillZ (mixZ (tnC t_ce t_sh t_nc line k t_bel (wyZ t_ce line k) pv) t_ce (t_nl * 6)) (line * 6) z 0) ((line * 6) + k) pv) (t_ti) (t_lo) (t_hi) (t_gl) (va_up t_sh k (if t_ti line = 2 then 1 else 0)) (((t_nc : Nat) : Int)) (((t_nl : Nat) : Int)) (pv) (if t_far = (k : Int) then -1 else t_far)) rfl dX5_turn_281 ?_
                        exact g_vret F rfl (by decide) (by decide) ⟨rfl, (by have hz6 : z = 6 := (by omega); subst hz6; subst hpv; rfl)⟩ dX5_turn_284
                      · skip
                        refine g_iconst F dX5_turn_273 ?_
                        refine g_goto F (tgt := 281) dX5_turn_274 (by decide) ?_
                        refine g_eq (st' := [iv (if t_far = (k : Int) then -1 else t_far), .ref (t 0)]) rfl rfl (congrArg (fun zz => [iv zz, .ref (t 0)]) (show (-1 : Int) = if t_far = (k : Int) then -1 else t_far from (by first | (rw [if_pos (by omega)]; done) | (rw [if_neg (by omega)]; done)))) ?_
                        refine g_put F iX5 tyX5 tyX5_ok nmX5 0 rfl rfl 9 (by decide) (List.mem_of_getElem? (i := 7) rfl) rfl rfl rfl (Nat.le_of_ble_eq_true rfl) (wT cA t (va_up (fillZ (mixZ (tnC t_ce t_sh t_nc line k t_bel (wyZ t_ce line k) pv) t_ce (t_nl * 6)) (line * 6) z 0) ((line * 6) + k) pv) (t_ti) (t_lo) (t_hi) (t_gl) (va_up t_sh k (if t_ti line = 2 then 1 else 0)) (((t_nc : Nat) : Int)) (((t_nl : Nat) : Int)) (pv) (if t_far = (k : Int) then -1 else t_far)) rfl dX5_turn_281 ?_
                        exact g_vret F rfl (by decide) (by decide) ⟨rfl, (by have hz6 : z = 6 := (by omega); subst hz6; subst hpv; rfl)⟩ dX5_turn_284
                    · skip
                      refine g_iconst F dX5_turn_258 ?_
                      refine g_goto F (tgt := 263) dX5_turn_259 (by decide) ?_
                      refine g_eq (st' := [iv (if t_ti line = 2 then 1 else 0), iv (((k : Nat) : Int)), .ref (t 6)]) rfl rfl (congrArg (fun zz => [iv zz, iv (((k : Nat) : Int)), .ref (t 6)]) (show (1 : Int) = if t_ti line = 2 then 1 else 0 from (by first | (rw [if_pos (by omega)]; done) | (rw [if_neg (by omega)]; done)))) ?_
                      refine g_zast F 6 rfl (k) (by split <;> simp) (by omega) (by omega) (by decide) (wT cA t (va_up (fillZ (mixZ (tnC t_ce t_sh t_nc line k t_bel (wyZ t_ce line k) pv) t_ce (t_nl * 6)) (line * 6) z 0) ((line * 6) + k) pv) (t_ti) (t_lo) (t_hi) (t_gl) (va_up t_sh k (if t_ti line = 2 then 1 else 0)) (((t_nc : Nat) : Int)) (((t_nl : Nat) : Int)) (pv) (t_far)) rfl dX5_turn_263 ?_
                      refine g_aload_n F 0 rfl rfl dX5_turn_264 ?_
                      refine g_aload_n F 0 rfl rfl dX5_turn_265 ?_
                      refine g_get F hV iX5 0 rfl rfl 9 (by decide) (List.mem_of_getElem? (i := 7) rfl) rfl dX5_turn_266 ?_
                      refine g_iload_n F 2 rfl rfl dX5_turn_269 ?_
                      refine g_icmp_ne F (tgt := 277) dX5_turn_270 (by decide) ⟨by omega, by omega⟩ ⟨by omega, by omega⟩ (fun c_30 => ?_) (fun c_30 => ?_)
                      · skip
                        refine g_aload_n F 0 rfl rfl dX5_turn_277 ?_
                        refine g_get F hV iX5 0 rfl rfl 9 (by decide) (List.mem_of_getElem? (i := 7) rfl) rfl dX5_turn_278 ?_
                        refine g_eq (st' := [iv (if t_far = (k : Int) then -1 else t_far), .ref (t 0)]) rfl rfl (congrArg (fun zz => [iv zz, .ref (t 0)]) (show (t_far : Int) = if t_far = (k : Int) then -1 else t_far from (by first | (rw [if_pos (by omega)]; done) | (rw [if_neg (by omega)]; done)))) ?_
                        refine g_put F iX5 tyX5 tyX5_ok nmX5 0 rfl rfl 9 (by decide) (List.mem_of_getElem? (i := 7) rfl) rfl rfl rfl (Nat.le_of_ble_eq_true rfl) (wT cA t (va_up (fillZ (mixZ (tnC t_ce t_sh t_nc line k t_bel (wyZ t_ce line k) pv) t_ce (t_nl * 6)) (line * 6) z 0) ((line * 6) + k) pv) (t_ti) (t_lo) (t_hi) (t_gl) (va_up t_sh k (if t_ti line = 2 then 1 else 0)) (((t_nc : Nat) : Int)) (((t_nl : Nat) : Int)) (pv) (if t_far = (k : Int) then -1 else t_far)) rfl dX5_turn_281 ?_
                        exact g_vret F rfl (by decide) (by decide) ⟨rfl, (by have hz6 : z = 6 := (by omega); subst hz6; subst hpv; rfl)⟩ dX5_turn_284
                      · skip
                        refine g_iconst F dX5_turn_273 ?_
                        refine g_goto F (tgt := 281) dX5_turn_274 (by decide) ?_
                        refine g_eq (st' := [iv (if t_far = (k : Int) then -1 else t_far), .ref (t 0)]) rfl rfl (congrArg (fun zz => [iv zz, .ref (t 0)]) (show (-1 : Int) = if t_far = (k : Int) then -1 else t_far from (by first | (rw [if_pos (by omega)]; done) | (rw [if_neg (by omega)]; done)))) ?_
                        refine g_put F iX5 tyX5 tyX5_ok nmX5 0 rfl rfl 9 (by decide) (List.mem_of_getElem? (i := 7) rfl) rfl rfl rfl (Nat.le_of_ble_eq_true rfl) (wT cA t (va_up (fillZ (mixZ (tnC t_ce t_sh t_nc line k t_bel (wyZ t_ce line k) pv) t_ce (t_nl * 6)) (line * 6) z 0) ((line * 6) + k) pv) (t_ti) (t_lo) (t_hi) (t_gl) (va_up t_sh k (if t_ti line = 2 then 1 else 0)) (((t_nc : Nat) : Int)) (((t_nl : Nat) : Int)) (pv) (if t_far = (k : Int) then -1 else t_far)) rfl dX5_turn_281 ?_
                        exact g_vret F rfl (by decide) (by decide) ⟨rfl, (by have hz6 : z = 6 := (by omega); subst hz6; subst hpv; rfl)⟩ dX5_turn_284
                  · skip
                    refine g_aload_n F 0 rfl rfl dX5_turn_211 ?_
                    refine g_get F hV iX5 0 rfl rfl 0 (by decide) (List.mem_of_getElem? (i := 1) rfl) rfl dX5_turn_212 ?_
                    refine g_iload_n F 3 rfl rfl dX5_turn_215 ?_
                    refine g_iload F 6 rfl dX5_turn_216 ?_
                    refine g_iadd F dX5_turn_218 ?_
                    refine g_lconst F (z := 0) dX5_turn_219 (by decide) ?_
                    refine g_last F 1 rfl ((line * 6) + z) (by omega) (by omega) (by decide) (wT cA t (va_up (fillZ (mixZ (tnC t_ce t_sh t_nc line k t_bel (wyZ t_ce line k) pv) t_ce (t_nl * 6)) (line * 6) z 0) ((line * 6) + z) 0) (t_ti) (t_lo) (t_hi) (t_gl) (t_sh) (((t_nc : Nat) : Int)) (((t_nl : Nat) : Int)) (t_bel) (t_far)) rfl dX5_turn_220 ?_
                    refine g_iinc F 6 rfl ([(7, iv ((((z : Nat) : Int)) + 1)), (0, .ref (t 0)), (1, iv (((line : Nat) : Int))), (2, iv (((k : Nat) : Int))), (3, iv ((((line : Nat) : Int)) * 6)), (4, iv (wyZ t_ce line k)), (5, jv (pv))]) rfl (by decide) dX5_turn_221 ?_
                    refine g_goto F (tgt := 204) dX5_turn_224 (by decide) ?_
                    refine g_lsub ([(0, .ref (t 0)), (1, iv (((line : Nat) : Int))), (2, iv (((k : Nat) : Int))), (3, iv ((((line : Nat) : Int)) * 6)), (4, iv (wyZ t_ce line k)), (5, jv (pv)), (7, iv ((((z : Nat) : Int)) + 1))]) [1, 2, 3, 4, 5, 6, 0] rfl ?_
                    exact ih204 (z + 1) (va_up (fillZ (mixZ (tnC t_ce t_sh t_nc line k t_bel (wyZ t_ce line k) pv) t_ce (t_nl * 6)) (line * 6) z 0) ((line * 6) + z) 0) (by omega) (fill_up _ _ _ _) (by omega)
              refine g_lsub ([(0, .ref (t 0)), (1, iv (((line : Nat) : Int))), (2, iv (((k : Nat) : Int))), (3, iv ((((line : Nat) : Int)) * 6)), (4, iv (wyZ t_ce line k)), (5, jv (pv)), (7, iv (0))]) [1, 2, 3, 4, 5, 6, 0] rfl ?_
              exact lp204 (_ + 1) 0 (mixZ (tnC t_ce t_sh t_nc line k t_bel (wyZ t_ce line k) pv) t_ce (t_nl * 6)) (by omega) (fill_0 _ _ _).symm (Nat.lt_succ_self _)
            · skip
              refine g_iload F 6 rfl dX5_turn_68 ?_
              refine g_bipush F dX5_turn_70 (by decide) ?_
              refine g_imul F dX5_turn_72 ?_
              refine g_istore F ([(8, iv ((((i : Nat) : Int)) * 6)), (0, .ref (t 0)), (1, iv (((line : Nat) : Int))), (2, iv (((k : Nat) : Int))), (3, iv ((((line : Nat) : Int)) * 6)), (4, iv (wyZ t_ce line k)), (5, jv (pv)), (7, iv (((i : Nat) : Int)))]) rfl (by decide) dX5_turn_73 ?_
              refine g_iload F 5 rfl dX5_turn_75 ?_
              refine g_i2l F ⟨by omega, by omega⟩ dX5_turn_77 ?_
              refine g_aload_n F 1 rfl rfl dX5_turn_78 ?_
              refine g_get F hV iX5 0 rfl rfl 0 (by decide) (List.mem_of_getElem? (i := 1) rfl) rfl dX5_turn_79 ?_
              refine g_iload F 0 rfl dX5_turn_82 ?_
              refine g_iload_n F 3 rfl rfl dX5_turn_84 ?_
              refine g_iadd F dX5_turn_85 ?_
              refine g_lald F hV 1 rfl ((i * 6) + k) (by omega) (by omega) (by decide) dX5_turn_86 ?_
              refine g_lmul F dX5_turn_87 ?_
              obtain ⟨fc, hfc⟩ : ∃ y : Int, y = (wyZ t_ce line k) * ((mixZ (tnC t_ce t_sh t_nc line k t_bel (wyZ t_ce line k) pv) t_ce (i * 6)) ((i * 6) + k)) := ⟨_, rfl⟩
              rw [← hfc]
              rw [mix_ge (by omega)] at hfc
              have hfb : fc.natAbs ≤ 8000000 := by rw [hfc, wyZ_abs]; have := hB i k hk; omega
              refine g_lstore F ([(9, jv (fc)), (8, iv ((((i : Nat) : Int)) * 6)), (0, .ref (t 0)), (1, iv (((line : Nat) : Int))), (2, iv (((k : Nat) : Int))), (3, iv ((((line : Nat) : Int)) * 6)), (4, iv (wyZ t_ce line k)), (5, jv (pv)), (7, iv (((i : Nat) : Int)))]) rfl (by decide) dX5_turn_88 ?_
              refine g_iload F 8 rfl dX5_turn_90 ?_
              refine g_iload_n F 3 rfl rfl dX5_turn_92 ?_
              refine g_icmp_eq F (tgt := 195) dX5_turn_93 (by decide) ⟨by omega, by omega⟩ ⟨by omega, by omega⟩ (fun c_31 => ?_) (fun c_31 => ?_)
              · skip
                refine g_iinc F 8 rfl ([(7, iv ((((i : Nat) : Int)) + 1)), (9, jv (fc)), (8, iv ((((i : Nat) : Int)) * 6)), (0, .ref (t 0)), (1, iv (((line : Nat) : Int))), (2, iv (((k : Nat) : Int))), (3, iv ((((line : Nat) : Int)) * 6)), (4, iv (wyZ t_ce line k)), (5, jv (pv))]) rfl (by decide) dX5_turn_195 ?_
                refine g_goto F (tgt := 59) dX5_turn_198 (by decide) ?_
                refine g_lsub ([(0, .ref (t 0)), (1, iv (((line : Nat) : Int))), (2, iv (((k : Nat) : Int))), (3, iv ((((line : Nat) : Int)) * 6)), (4, iv (wyZ t_ce line k)), (5, jv (pv)), (7, iv ((((i : Nat) : Int)) + 1))]) [3, 4, 5, 6, 7, 8, 0] rfl ?_
                exact ih59 (i + 1) (mixZ (tnC t_ce t_sh t_nc line k t_bel (wyZ t_ce line k) pv) t_ce (i * 6)) (by omega) (tn_row (by first | exact Or.inl (by omega) | exact Or.inr ⟨by rw [← hfc]; omega, by omega⟩)) (by omega)
              · skip
                refine g_lload F 0 rfl dX5_turn_96 ?_
                refine g_lconst F (z := 0) dX5_turn_98 (by decide) ?_
                refine g_lcmp_ne F (tgt := 113) dX5_turn_99 dX5_turn_100 (by decide) ⟨by omega, by omega⟩ ⟨by decide, by decide⟩ (fun c_32 => ?_) (fun c_32 => ?_)
                · skip
                  refine g_iconst F dX5_turn_113 ?_
                  refine g_istore F ([(11, iv (0)), (9, jv (fc)), (8, iv ((((i : Nat) : Int)) * 6)), (0, .ref (t 0)), (1, iv (((line : Nat) : Int))), (2, iv (((k : Nat) : Int))), (3, iv ((((line : Nat) : Int)) * 6)), (4, iv (wyZ t_ce line k)), (5, jv (pv)), (7, iv (((i : Nat) : Int)))]) rfl (by decide) dX5_turn_114 ?_
                  have lp116 : ∀ (n : Nat) (j : Nat) (cy : Nat → Int) (hj : j ≤ 6) (hcy : cy = mixZ (tnC t_ce t_sh t_nc line k t_bel (wyZ t_ce line k) pv) t_ce (i * 6 + j)), 6 - j < n → GW p_ l e_ (headSpec wsX5_turn ({ frames := 0, cells := 0, slots := 0, locals := 0 })).room s_ m_ ([.ref (t 0), iv (((line : Nat) : Int)), iv (((k : Nat) : Int))]).toArray b_ me_ c_ (MQ b_ (Qm D (fun ov ow => ov = none ∧ ow = wTS cA t t_nc (turnT t_nc line k (t_ce, t_ti, t_lo, t_hi, t_gl, t_sh, t_nl, t_bel, t_far))) A) ([.ref (t 0), iv (((line : Nat) : Int)), iv (((k : Nat) : Int))]).toArray s_ 0 0 A) (IM D s_ A) 12 0 0 (wT cA t (cy) (t_ti) (t_lo) (t_hi) (t_gl) (t_sh) (((t_nc : Nat) : Int)) (((t_nl : Nat) : Int)) (t_bel) (t_far)) ([(0, .ref (t 0)), (1, iv (((line : Nat) : Int))), (2, iv (((k : Nat) : Int))), (3, iv ((((line : Nat) : Int)) * 6)), (4, iv (wyZ t_ce line k)), (5, jv (pv)), (7, iv (((i : Nat) : Int))), (8, iv ((((i : Nat) : Int)) * 6)), (9, jv (fc)), (11, iv (((j : Nat) : Int)))]) [] 116 := by
                    intro n; induction n with
                    | zero => intro j cy; intros; omega
                    | succ n ih116 =>
                      intro j cy hj hcy hmu116
                      subst hcy
                      refine g_iload F 9 rfl dX5_turn_116 ?_
                      refine g_bipush F dX5_turn_118 (by decide) ?_
                      refine g_icmp_ge F (tgt := 195) dX5_turn_120 (by decide) ⟨by omega, by omega⟩ ⟨by decide, by decide⟩ (fun c_33 => ?_) (fun c_33 => ?_)
                      · skip
                        refine g_iinc F 6 rfl ([(7, iv ((((i : Nat) : Int)) + 1)), (0, .ref (t 0)), (1, iv (((line : Nat) : Int))), (2, iv (((k : Nat) : Int))), (3, iv ((((line : Nat) : Int)) * 6)), (4, iv (wyZ t_ce line k)), (5, jv (pv)), (8, iv ((((i : Nat) : Int)) * 6)), (9, jv (fc)), (11, iv (((j : Nat) : Int)))]) rfl (by decide) dX5_turn_195 ?_
                        refine g_goto F (tgt := 59) dX5_turn_198 (by decide) ?_
                        refine g_lsub ([(0, .ref (t 0)), (1, iv (((line : Nat) : Int))), (2, iv (((k : Nat) : Int))), (3, iv ((((line : Nat) : Int)) * 6)), (4, iv (wyZ t_ce line k)), (5, jv (pv)), (7, iv ((((i : Nat) : Int)) + 1))]) [1, 2, 3, 4, 5, 6, 0] rfl ?_
                        exact ih59 (i + 1) (mixZ (tnC t_ce t_sh t_nc line k t_bel (wyZ t_ce line k) pv) t_ce (i * 6 + j)) (by omega) (by have hj6 : j = 6 := (by omega); subst hj6; exact congrArg _ (show i * 6 + 6 = (i + 1) * 6 by omega)) (by omega)
                      · skip
                        refine g_iload F 9 rfl dX5_turn_123 ?_
                        refine g_iload_n F 2 rfl rfl dX5_turn_125 ?_
                        refine g_icmp_eq F (tgt := 189) dX5_turn_126 (by decide) ⟨by omega, by omega⟩ ⟨by omega, by omega⟩ (fun c_34 => ?_) (fun c_34 => ?_)
                        · skip
                          refine g_iinc F 9 rfl ([(11, iv ((((j : Nat) : Int)) + 1)), (0, .ref (t 0)), (1, iv (((line : Nat) : Int))), (2, iv (((k : Nat) : Int))), (3, iv ((((line : Nat) : Int)) * 6)), (4, iv (wyZ t_ce line k)), (5, jv (pv)), (7, iv (((i : Nat) : Int))), (8, iv ((((i : Nat) : Int)) * 6)), (9, jv (fc))]) rfl (by decide) dX5_turn_189 ?_
                          refine g_goto F (tgt := 116) dX5_turn_192 (by decide) ?_
                          refine g_lsub ([(0, .ref (t 0)), (1, iv (((line : Nat) : Int))), (2, iv (((k : Nat) : Int))), (3, iv ((((line : Nat) : Int)) * 6)), (4, iv (wyZ t_ce line k)), (5, jv (pv)), (7, iv (((i : Nat) : Int))), (8, iv ((((i : Nat) : Int)) * 6)), (9, jv (fc)), (11, iv ((((j : Nat) : Int)) + 1))]) [1, 2, 3, 4, 5, 6, 7, 8, 9, 0] rfl ?_
                          exact ih116 (j + 1) (mixZ (tnC t_ce t_sh t_nc line k t_bel (wyZ t_ce line k) pv) t_ce (i * 6 + j)) (by omega) (tn_skip (by omega) (by first | exact Or.inl (by omega) | exact Or.inr ⟨by omega, by omega⟩)) (by omega)
                        · skip
                          refine g_iload F 9 rfl dX5_turn_129 ?_
                          refine g_aload_n F 0 rfl rfl dX5_turn_131 ?_
                          refine g_get F hV iX5 0 rfl rfl 6 (by decide) (List.mem_of_getElem? (i := 4) rfl) rfl dX5_turn_132 ?_
                          refine g_icmp_ge F (tgt := 148) dX5_turn_135 (by decide) ⟨by omega, by omega⟩ ⟨by omega, by omega⟩ (fun c_35 => ?_) (fun c_35 => ?_)
                          · skip
                            refine g_aload_n F 0 rfl rfl dX5_turn_148 ?_
                            refine g_get F hV iX5 0 rfl rfl 0 (by decide) (List.mem_of_getElem? (i := 1) rfl) rfl dX5_turn_149 ?_
                            refine g_iload F 7 rfl dX5_turn_152 ?_
                            refine g_iload F 9 rfl dX5_turn_154 ?_
                            refine g_iadd F dX5_turn_156 ?_
                            refine g_lload F 5 rfl dX5_turn_157 ?_
                            refine g_aload_n F 0 rfl rfl dX5_turn_159 ?_
                            refine g_get F hV iX5 0 rfl rfl 0 (by decide) (List.mem_of_getElem? (i := 1) rfl) rfl dX5_turn_160 ?_
                            refine g_iload F 7 rfl dX5_turn_163 ?_
                            refine g_iload F 9 rfl dX5_turn_165 ?_
                            refine g_iadd F dX5_turn_167 ?_
                            refine g_lald F hV 1 rfl ((i * 6) + j) (by omega) (by omega) (by decide) dX5_turn_168 ?_
                            obtain ⟨u1, hu1⟩ : ∃ y : Int, y = (mixZ (tnC t_ce t_sh t_nc line k t_bel (wyZ t_ce line k) pv) t_ce (i * 6 + j)) ((i * 6) + j) := ⟨_, rfl⟩
                            rw [← hu1]
                            rw [mix_ge (by omega)] at hu1
                            have hbu1 : u1.natAbs ≤ 100000000000 := by rw [hu1]; rcases (show j < 5 ∨ j = 5 by omega) with w | w; (have := hB i j w; omega); (subst w; have := hC i; omega)
                            refine g_lmul F dX5_turn_169 ?_
                            refine g_lload F 8 rfl dX5_turn_170 ?_
                            refine g_aload_n F 0 rfl rfl dX5_turn_172 ?_
                            refine g_get F hV iX5 0 rfl rfl 0 (by decide) (List.mem_of_getElem? (i := 1) rfl) rfl dX5_turn_173 ?_
                            refine g_iload_n F 3 rfl rfl dX5_turn_176 ?_
                            refine g_iload F 9 rfl dX5_turn_177 ?_
                            refine g_iadd F dX5_turn_179 ?_
                            refine g_lald F hV 1 rfl ((line * 6) + j) (by omega) (by omega) (by decide) dX5_turn_180 ?_
                            obtain ⟨u2, hu2⟩ : ∃ y : Int, y = (mixZ (tnC t_ce t_sh t_nc line k t_bel (wyZ t_ce line k) pv) t_ce (i * 6 + j)) ((line * 6) + j) := ⟨_, rfl⟩
                            rw [← hu2]
                            rw [mix_line (by omega)] at hu2
                            have hbu2 : u2.natAbs ≤ 100000000000 := by rw [hu2]; rcases (show j < 5 ∨ j = 5 by omega) with w | w; (have := hB line j w; omega); (subst w; have := hC line; omega)
                            have hm1 := mul_nat (x := pv) (y := u1) (a := 8000000) (b := 100000000000) (by omega) hbu1
                            have hm2 := mul_nat (x := fc) (y := u2) (a := 8000000) (b := 100000000000) hfb hbu2
                            refine g_lmul F dX5_turn_181 ?_
                            refine g_lsub2 F dX5_turn_182 ?_
                            refine g_aload_n F 0 rfl rfl dX5_turn_183 ?_
                            refine g_get F hV iX5 0 rfl rfl 8 (by decide) (List.mem_of_getElem? (i := 2) rfl) rfl dX5_turn_184 ?_
                            refine g_ldiv F ⟨by omega, by omega⟩ ⟨by omega, by omega⟩ (by omega) (tdiv_64 ⟨by omega, by omega⟩ (by omega) (by omega)) dX5_turn_187 ?_
                            refine g_last F 1 rfl ((i * 6) + j) (by omega) (by omega) (by decide) (wT cA t (va_up (mixZ (tnC t_ce t_sh t_nc line k t_bel (wyZ t_ce line k) pv) t_ce (i * 6 + j)) ((i * 6) + j) (Int.tdiv ((pv * u1) - (fc * u2)) t_bel)) (t_ti) (t_lo) (t_hi) (t_gl) (t_sh) (((t_nc : Nat) : Int)) (((t_nl : Nat) : Int)) (t_bel) (t_far)) rfl dX5_turn_188 ?_
                            refine g_iinc F 9 rfl ([(11, iv ((((j : Nat) : Int)) + 1)), (0, .ref (t 0)), (1, iv (((line : Nat) : Int))), (2, iv (((k : Nat) : Int))), (3, iv ((((line : Nat) : Int)) * 6)), (4, iv (wyZ t_ce line k)), (5, jv (pv)), (7, iv (((i : Nat) : Int))), (8, iv ((((i : Nat) : Int)) * 6)), (9, jv (fc))]) rfl (by decide) dX5_turn_189 ?_
                            refine g_goto F (tgt := 116) dX5_turn_192 (by decide) ?_
                            refine g_lsub ([(0, .ref (t 0)), (1, iv (((line : Nat) : Int))), (2, iv (((k : Nat) : Int))), (3, iv ((((line : Nat) : Int)) * 6)), (4, iv (wyZ t_ce line k)), (5, jv (pv)), (7, iv (((i : Nat) : Int))), (8, iv ((((i : Nat) : Int)) * 6)), (9, jv (fc)), (11, iv ((((j : Nat) : Int)) + 1))]) [1, 2, 3, 4, 5, 6, 7, 8, 9, 0] rfl ?_
                            exact ih116 (j + 1) (va_up (mixZ (tnC t_ce t_sh t_nc line k t_bel (wyZ t_ce line k) pv) t_ce (i * 6 + j)) ((i * 6) + j) (Int.tdiv ((pv * u1) - (fc * u2)) t_bel)) (by omega) (tn_put (by omega) (by omega) (by rw [← hfc]; omega) (by omega) (by omega) (by rw [hu1, hu2, hfc])) (by omega)
                          · skip
                            refine g_aload_n F 0 rfl rfl dX5_turn_138 ?_
                            refine g_get F hV iX5 0 rfl rfl 5 (by decide) (List.mem_of_getElem? (i := 5) rfl) rfl dX5_turn_139 ?_
                            refine g_iload F 9 rfl dX5_turn_142 ?_
                            have r_36 := hsh (j)
                            refine g_zald F hV 6 rfl (j) (by omega) (by omega) (by decide) dX5_turn_144 ?_
                            refine g_if_ne F (tgt := 189) dX5_turn_145 (by decide) ⟨by omega, by omega⟩ (fun c_37 => ?_) (fun c_37 => ?_)
                            · skip
                              refine g_iinc F 9 rfl ([(11, iv ((((j : Nat) : Int)) + 1)), (0, .ref (t 0)), (1, iv (((line : Nat) : Int))), (2, iv (((k : Nat) : Int))), (3, iv ((((line : Nat) : Int)) * 6)), (4, iv (wyZ t_ce line k)), (5, jv (pv)), (7, iv (((i : Nat) : Int))), (8, iv ((((i : Nat) : Int)) * 6)), (9, jv (fc))]) rfl (by decide) dX5_turn_189 ?_
                              refine g_goto F (tgt := 116) dX5_turn_192 (by decide) ?_
                              refine g_lsub ([(0, .ref (t 0)), (1, iv (((line : Nat) : Int))), (2, iv (((k : Nat) : Int))), (3, iv ((((line : Nat) : Int)) * 6)), (4, iv (wyZ t_ce line k)), (5, jv (pv)), (7, iv (((i : Nat) : Int))), (8, iv ((((i : Nat) : Int)) * 6)), (9, jv (fc)), (11, iv ((((j : Nat) : Int)) + 1))]) [1, 2, 3, 4, 5, 6, 7, 8, 9, 0] rfl ?_
                              exact ih116 (j + 1) (mixZ (tnC t_ce t_sh t_nc line k t_bel (wyZ t_ce line k) pv) t_ce (i * 6 + j)) (by omega) (tn_skip (by omega) (by first | exact Or.inl (by omega) | exact Or.inr ⟨by omega, by omega⟩)) (by omega)
                            · skip
                              refine g_aload_n F 0 rfl rfl dX5_turn_148 ?_
                              refine g_get F hV iX5 0 rfl rfl 0 (by decide) (List.mem_of_getElem? (i := 1) rfl) rfl dX5_turn_149 ?_
                              refine g_iload F 7 rfl dX5_turn_152 ?_
                              refine g_iload F 9 rfl dX5_turn_154 ?_
                              refine g_iadd F dX5_turn_156 ?_
                              refine g_lload F 5 rfl dX5_turn_157 ?_
                              refine g_aload_n F 0 rfl rfl dX5_turn_159 ?_
                              refine g_get F hV iX5 0 rfl rfl 0 (by decide) (List.mem_of_getElem? (i := 1) rfl) rfl dX5_turn_160 ?_
                              refine g_iload F 7 rfl dX5_turn_163 ?_
                              refine g_iload F 9 rfl dX5_turn_165 ?_
                              refine g_iadd F dX5_turn_167 ?_
                              refine g_lald F hV 1 rfl ((i * 6) + j) (by omega) (by omega) (by decide) dX5_turn_168 ?_
                              obtain ⟨u1, hu1⟩ : ∃ y : Int, y = (mixZ (tnC t_ce t_sh t_nc line k t_bel (wyZ t_ce line k) pv) t_ce (i * 6 + j)) ((i * 6) + j) := ⟨_, rfl⟩
                              rw [← hu1]
                              rw [mix_ge (by omega)] at hu1
                              have hbu1 : u1.natAbs ≤ 100000000000 := by rw [hu1]; rcases (show j < 5 ∨ j = 5 by omega) with w | w; (have := hB i j w; omega); (subst w; have := hC i; omega)
                              refine g_lmul F dX5_turn_169 ?_
                              refine g_lload F 8 rfl dX5_turn_170 ?_
                              refine g_aload_n F 0 rfl rfl dX5_turn_172 ?_
                              refine g_get F hV iX5 0 rfl rfl 0 (by decide) (List.mem_of_getElem? (i := 1) rfl) rfl dX5_turn_173 ?_
                              refine g_iload_n F 3 rfl rfl dX5_turn_176 ?_
                              refine g_iload F 9 rfl dX5_turn_177 ?_
                              refine g_iadd F dX5_turn_179 ?_
                              refine g_lald F hV 1 rfl ((line * 6) + j) (by omega) (by omega) (by decide) dX5_turn_180 ?_
                              obtain ⟨u2, hu2⟩ : ∃ y : Int, y = (mixZ (tnC t_ce t_sh t_nc line k t_bel (wyZ t_ce line k) pv) t_ce (i * 6 + j)) ((line * 6) + j) := ⟨_, rfl⟩
                              rw [← hu2]
                              rw [mix_line (by omega)] at hu2
                              have hbu2 : u2.natAbs ≤ 100000000000 := by rw [hu2]; rcases (show j < 5 ∨ j = 5 by omega) with w | w; (have := hB line j w; omega); (subst w; have := hC line; omega)
                              have hm1 := mul_nat (x := pv) (y := u1) (a := 8000000) (b := 100000000000) (by omega) hbu1
                              have hm2 := mul_nat (x := fc) (y := u2) (a := 8000000) (b := 100000000000) hfb hbu2
                              refine g_lmul F dX5_turn_181 ?_
                              refine g_lsub2 F dX5_turn_182 ?_
                              refine g_aload_n F 0 rfl rfl dX5_turn_183 ?_
                              refine g_get F hV iX5 0 rfl rfl 8 (by decide) (List.mem_of_getElem? (i := 2) rfl) rfl dX5_turn_184 ?_
                              refine g_ldiv F ⟨by omega, by omega⟩ ⟨by omega, by omega⟩ (by omega) (tdiv_64 ⟨by omega, by omega⟩ (by omega) (by omega)) dX5_turn_187 ?_
                              refine g_last F 1 rfl ((i * 6) + j) (by omega) (by omega) (by decide) (wT cA t (va_up (mixZ (tnC t_ce t_sh t_nc line k t_bel (wyZ t_ce line k) pv) t_ce (i * 6 + j)) ((i * 6) + j) (Int.tdiv ((pv * u1) - (fc * u2)) t_bel)) (t_ti) (t_lo) (t_hi) (t_gl) (t_sh) (((t_nc : Nat) : Int)) (((t_nl : Nat) : Int)) (t_bel) (t_far)) rfl dX5_turn_188 ?_
                              refine g_iinc F 9 rfl ([(11, iv ((((j : Nat) : Int)) + 1)), (0, .ref (t 0)), (1, iv (((line : Nat) : Int))), (2, iv (((k : Nat) : Int))), (3, iv ((((line : Nat) : Int)) * 6)), (4, iv (wyZ t_ce line k)), (5, jv (pv)), (7, iv (((i : Nat) : Int))), (8, iv ((((i : Nat) : Int)) * 6)), (9, jv (fc))]) rfl (by decide) dX5_turn_189 ?_
                              refine g_goto F (tgt := 116) dX5_turn_192 (by decide) ?_
                              refine g_lsub ([(0, .ref (t 0)), (1, iv (((line : Nat) : Int))), (2, iv (((k : Nat) : Int))), (3, iv ((((line : Nat) : Int)) * 6)), (4, iv (wyZ t_ce line k)), (5, jv (pv)), (7, iv (((i : Nat) : Int))), (8, iv ((((i : Nat) : Int)) * 6)), (9, jv (fc)), (11, iv ((((j : Nat) : Int)) + 1))]) [1, 2, 3, 4, 5, 6, 7, 8, 9, 0] rfl ?_
                              exact ih116 (j + 1) (va_up (mixZ (tnC t_ce t_sh t_nc line k t_bel (wyZ t_ce line k) pv) t_ce (i * 6 + j)) ((i * 6) + j) (Int.tdiv ((pv * u1) - (fc * u2)) t_bel)) (by omega) (tn_put (by omega) (by omega) (by rw [← hfc]; omega) (by omega) (by omega) (by rw [hu1, hu2, hfc])) (by omega)
                  refine g_lsub ([(0, .ref (t 0)), (1, iv (((line : Nat) : Int))), (2, iv (((k : Nat) : Int))), (3, iv ((((line : Nat) : Int)) * 6)), (4, iv (wyZ t_ce line k)), (5, jv (pv)), (7, iv (((i : Nat) : Int))), (8, iv ((((i : Nat) : Int)) * 6)), (9, jv (fc)), (11, iv (0))]) [3, 4, 5, 6, 7, 8, 9, 2, 1, 0] rfl ?_
                  exact lp116 (_ + 1) 0 (mixZ (tnC t_ce t_sh t_nc line k t_bel (wyZ t_ce line k) pv) t_ce (i * 6)) (by omega) (rfl) (Nat.lt_succ_self _)
                · skip
                  refine g_lload F 7 rfl dX5_turn_103 ?_
                  refine g_aload_n F 2 rfl rfl dX5_turn_105 ?_
                  refine g_get F hV iX5 0 rfl rfl 8 (by decide) (List.mem_of_getElem? (i := 2) rfl) rfl dX5_turn_106 ?_
                  refine g_lcmp_eq F (tgt := 195) dX5_turn_109 dX5_turn_110 (by decide) ⟨by omega, by omega⟩ ⟨by omega, by omega⟩ (fun c_38 => ?_) (fun c_38 => ?_)
                  · skip
                    refine g_iinc F 8 rfl ([(7, iv ((((i : Nat) : Int)) + 1)), (9, jv (fc)), (8, iv ((((i : Nat) : Int)) * 6)), (0, .ref (t 0)), (1, iv (((line : Nat) : Int))), (2, iv (((k : Nat) : Int))), (3, iv ((((line : Nat) : Int)) * 6)), (4, iv (wyZ t_ce line k)), (5, jv (pv))]) rfl (by decide) dX5_turn_195 ?_
                    refine g_goto F (tgt := 59) dX5_turn_198 (by decide) ?_
                    refine g_lsub ([(0, .ref (t 0)), (1, iv (((line : Nat) : Int))), (2, iv (((k : Nat) : Int))), (3, iv ((((line : Nat) : Int)) * 6)), (4, iv (wyZ t_ce line k)), (5, jv (pv)), (7, iv ((((i : Nat) : Int)) + 1))]) [3, 4, 5, 6, 7, 8, 0] rfl ?_
                    exact ih59 (i + 1) (mixZ (tnC t_ce t_sh t_nc line k t_bel (wyZ t_ce line k) pv) t_ce (i * 6)) (by omega) (tn_row (by first | exact Or.inl (by omega) | exact Or.inr ⟨by rw [← hfc]; omega, by omega⟩)) (by omega)
                  · skip
                    refine g_iconst F dX5_turn_113 ?_
                    refine g_istore F ([(11, iv (0)), (9, jv (fc)), (8, iv ((((i : Nat) : Int)) * 6)), (0, .ref (t 0)), (1, iv (((line : Nat) : Int))), (2, iv (((k : Nat) : Int))), (3, iv ((((line : Nat) : Int)) * 6)), (4, iv (wyZ t_ce line k)), (5, jv (pv)), (7, iv (((i : Nat) : Int)))]) rfl (by decide) dX5_turn_114 ?_
                    have lp116 : ∀ (n : Nat) (j : Nat) (cy : Nat → Int) (hj : j ≤ 6) (hcy : cy = mixZ (tnC t_ce t_sh t_nc line k t_bel (wyZ t_ce line k) pv) t_ce (i * 6 + j)), 6 - j < n → GW p_ l e_ (headSpec wsX5_turn ({ frames := 0, cells := 0, slots := 0, locals := 0 })).room s_ m_ ([.ref (t 0), iv (((line : Nat) : Int)), iv (((k : Nat) : Int))]).toArray b_ me_ c_ (MQ b_ (Qm D (fun ov ow => ov = none ∧ ow = wTS cA t t_nc (turnT t_nc line k (t_ce, t_ti, t_lo, t_hi, t_gl, t_sh, t_nl, t_bel, t_far))) A) ([.ref (t 0), iv (((line : Nat) : Int)), iv (((k : Nat) : Int))]).toArray s_ 0 0 A) (IM D s_ A) 12 0 0 (wT cA t (cy) (t_ti) (t_lo) (t_hi) (t_gl) (t_sh) (((t_nc : Nat) : Int)) (((t_nl : Nat) : Int)) (t_bel) (t_far)) ([(0, .ref (t 0)), (1, iv (((line : Nat) : Int))), (2, iv (((k : Nat) : Int))), (3, iv ((((line : Nat) : Int)) * 6)), (4, iv (wyZ t_ce line k)), (5, jv (pv)), (7, iv (((i : Nat) : Int))), (8, iv ((((i : Nat) : Int)) * 6)), (9, jv (fc)), (11, iv (((j : Nat) : Int)))]) [] 116 := by
                      intro n; induction n with
                      | zero => intro j cy; intros; omega
                      | succ n ih116 =>
                        intro j cy hj hcy hmu116
                        subst hcy
                        refine g_iload F 9 rfl dX5_turn_116 ?_
                        refine g_bipush F dX5_turn_118 (by decide) ?_
                        refine g_icmp_ge F (tgt := 195) dX5_turn_120 (by decide) ⟨by omega, by omega⟩ ⟨by decide, by decide⟩ (fun c_39 => ?_) (fun c_39 => ?_)
                        · skip
                          refine g_iinc F 6 rfl ([(7, iv ((((i : Nat) : Int)) + 1)), (0, .ref (t 0)), (1, iv (((line : Nat) : Int))), (2, iv (((k : Nat) : Int))), (3, iv ((((line : Nat) : Int)) * 6)), (4, iv (wyZ t_ce line k)), (5, jv (pv)), (8, iv ((((i : Nat) : Int)) * 6)), (9, jv (fc)), (11, iv (((j : Nat) : Int)))]) rfl (by decide) dX5_turn_195 ?_
                          refine g_goto F (tgt := 59) dX5_turn_198 (by decide) ?_
                          refine g_lsub ([(0, .ref (t 0)), (1, iv (((line : Nat) : Int))), (2, iv (((k : Nat) : Int))), (3, iv ((((line : Nat) : Int)) * 6)), (4, iv (wyZ t_ce line k)), (5, jv (pv)), (7, iv ((((i : Nat) : Int)) + 1))]) [1, 2, 3, 4, 5, 6, 0] rfl ?_
                          exact ih59 (i + 1) (mixZ (tnC t_ce t_sh t_nc line k t_bel (wyZ t_ce line k) pv) t_ce (i * 6 + j)) (by omega) (by have hj6 : j = 6 := (by omega); subst hj6; exact congrArg _ (show i * 6 + 6 = (i + 1) * 6 by omega)) (by omega)
                        · skip
                          refine g_iload F 9 rfl dX5_turn_123 ?_
                          refine g_iload_n F 2 rfl rfl dX5_turn_125 ?_
                          refine g_icmp_eq F (tgt := 189) dX5_turn_126 (by decide) ⟨by omega, by omega⟩ ⟨by omega, by omega⟩ (fun c_40 => ?_) (fun c_40 => ?_)
                          · skip
                            refine g_iinc F 9 rfl ([(11, iv ((((j : Nat) : Int)) + 1)), (0, .ref (t 0)), (1, iv (((line : Nat) : Int))), (2, iv (((k : Nat) : Int))), (3, iv ((((line : Nat) : Int)) * 6)), (4, iv (wyZ t_ce line k)), (5, jv (pv)), (7, iv (((i : Nat) : Int))), (8, iv ((((i : Nat) : Int)) * 6)), (9, jv (fc))]) rfl (by decide) dX5_turn_189 ?_
                            refine g_goto F (tgt := 116) dX5_turn_192 (by decide) ?_
                            refine g_lsub ([(0, .ref (t 0)), (1, iv (((line : Nat) : Int))), (2, iv (((k : Nat) : Int))), (3, iv ((((line : Nat) : Int)) * 6)), (4, iv (wyZ t_ce line k)), (5, jv (pv)), (7, iv (((i : Nat) : Int))), (8, iv ((((i : Nat) : Int)) * 6)), (9, jv (fc)), (11, iv ((((j : Nat) : Int)) + 1))]) [1, 2, 3, 4, 5, 6, 7, 8, 9, 0] rfl ?_
                            exact ih116 (j + 1) (mixZ (tnC t_ce t_sh t_nc line k t_bel (wyZ t_ce line k) pv) t_ce (i * 6 + j)) (by omega) (tn_skip (by omega) (by first | exact Or.inl (by omega) | exact Or.inr ⟨by omega, by omega⟩)) (by omega)
                          · skip
                            refine g_iload F 9 rfl dX5_turn_129 ?_
                            refine g_aload_n F 0 rfl rfl dX5_turn_131 ?_
                            refine g_get F hV iX5 0 rfl rfl 6 (by decide) (List.mem_of_getElem? (i := 4) rfl) rfl dX5_turn_132 ?_
                            refine g_icmp_ge F (tgt := 148) dX5_turn_135 (by decide) ⟨by omega, by omega⟩ ⟨by omega, by omega⟩ (fun c_41 => ?_) (fun c_41 => ?_)
                            · skip
                              refine g_aload_n F 0 rfl rfl dX5_turn_148 ?_
                              refine g_get F hV iX5 0 rfl rfl 0 (by decide) (List.mem_of_getElem? (i := 1) rfl) rfl dX5_turn_149 ?_
                              refine g_iload F 7 rfl dX5_turn_152 ?_
                              refine g_iload F 9 rfl dX5_turn_154 ?_
                              refine g_iadd F dX5_turn_156 ?_
                              refine g_lload F 5 rfl dX5_turn_157 ?_
                              refine g_aload_n F 0 rfl rfl dX5_turn_159 ?_
                              refine g_get F hV iX5 0 rfl rfl 0 (by decide) (List.mem_of_getElem? (i := 1) rfl) rfl dX5_turn_160 ?_
                              refine g_iload F 7 rfl dX5_turn_163 ?_
                              refine g_iload F 9 rfl dX5_turn_165 ?_
                              refine g_iadd F dX5_turn_167 ?_
                              refine g_lald F hV 1 rfl ((i * 6) + j) (by omega) (by omega) (by decide) dX5_turn_168 ?_
                              obtain ⟨u1, hu1⟩ : ∃ y : Int, y = (mixZ (tnC t_ce t_sh t_nc line k t_bel (wyZ t_ce line k) pv) t_ce (i * 6 + j)) ((i * 6) + j) := ⟨_, rfl⟩
                              rw [← hu1]
                              rw [mix_ge (by omega)] at hu1
                              have hbu1 : u1.natAbs ≤ 100000000000 := by rw [hu1]; rcases (show j < 5 ∨ j = 5 by omega) with w | w; (have := hB i j w; omega); (subst w; have := hC i; omega)
                              refine g_lmul F dX5_turn_169 ?_
                              refine g_lload F 8 rfl dX5_turn_170 ?_
                              refine g_aload_n F 0 rfl rfl dX5_turn_172 ?_
                              refine g_get F hV iX5 0 rfl rfl 0 (by decide) (List.mem_of_getElem? (i := 1) rfl) rfl dX5_turn_173 ?_
                              refine g_iload_n F 3 rfl rfl dX5_turn_176 ?_
                              refine g_iload F 9 rfl dX5_turn_177 ?_
                              refine g_iadd F dX5_turn_179 ?_
                              refine g_lald F hV 1 rfl ((line * 6) + j) (by omega) (by omega) (by decide) dX5_turn_180 ?_
                              obtain ⟨u2, hu2⟩ : ∃ y : Int, y = (mixZ (tnC t_ce t_sh t_nc line k t_bel (wyZ t_ce line k) pv) t_ce (i * 6 + j)) ((line * 6) + j) := ⟨_, rfl⟩
                              rw [← hu2]
                              rw [mix_line (by omega)] at hu2
                              have hbu2 : u2.natAbs ≤ 100000000000 := by rw [hu2]; rcases (show j < 5 ∨ j = 5 by omega) with w | w; (have := hB line j w; omega); (subst w; have := hC line; omega)
                              have hm1 := mul_nat (x := pv) (y := u1) (a := 8000000) (b := 100000000000) (by omega) hbu1
                              have hm2 := mul_nat (x := fc) (y := u2) (a := 8000000) (b := 100000000000) hfb hbu2
                              refine g_lmul F dX5_turn_181 ?_
                              refine g_lsub2 F dX5_turn_182 ?_
                              refine g_aload_n F 0 rfl rfl dX5_turn_183 ?_
                              refine g_get F hV iX5 0 rfl rfl 8 (by decide) (List.mem_of_getElem? (i := 2) rfl) rfl dX5_turn_184 ?_
                              refine g_ldiv F ⟨by omega, by omega⟩ ⟨by omega, by omega⟩ (by omega) (tdiv_64 ⟨by omega, by omega⟩ (by omega) (by omega)) dX5_turn_187 ?_
                              refine g_last F 1 rfl ((i * 6) + j) (by omega) (by omega) (by decide) (wT cA t (va_up (mixZ (tnC t_ce t_sh t_nc line k t_bel (wyZ t_ce line k) pv) t_ce (i * 6 + j)) ((i * 6) + j) (Int.tdiv ((pv * u1) - (fc * u2)) t_bel)) (t_ti) (t_lo) (t_hi) (t_gl) (t_sh) (((t_nc : Nat) : Int)) (((t_nl : Nat) : Int)) (t_bel) (t_far)) rfl dX5_turn_188 ?_
                              refine g_iinc F 9 rfl ([(11, iv ((((j : Nat) : Int)) + 1)), (0, .ref (t 0)), (1, iv (((line : Nat) : Int))), (2, iv (((k : Nat) : Int))), (3, iv ((((line : Nat) : Int)) * 6)), (4, iv (wyZ t_ce line k)), (5, jv (pv)), (7, iv (((i : Nat) : Int))), (8, iv ((((i : Nat) : Int)) * 6)), (9, jv (fc))]) rfl (by decide) dX5_turn_189 ?_
                              refine g_goto F (tgt := 116) dX5_turn_192 (by decide) ?_
                              refine g_lsub ([(0, .ref (t 0)), (1, iv (((line : Nat) : Int))), (2, iv (((k : Nat) : Int))), (3, iv ((((line : Nat) : Int)) * 6)), (4, iv (wyZ t_ce line k)), (5, jv (pv)), (7, iv (((i : Nat) : Int))), (8, iv ((((i : Nat) : Int)) * 6)), (9, jv (fc)), (11, iv ((((j : Nat) : Int)) + 1))]) [1, 2, 3, 4, 5, 6, 7, 8, 9, 0] rfl ?_
                              exact ih116 (j + 1) (va_up (mixZ (tnC t_ce t_sh t_nc line k t_bel (wyZ t_ce line k) pv) t_ce (i * 6 + j)) ((i * 6) + j) (Int.tdiv ((pv * u1) - (fc * u2)) t_bel)) (by omega) (tn_put (by omega) (by omega) (by rw [← hfc]; omega) (by omega) (by omega) (by rw [hu1, hu2, hfc])) (by omega)
                            · skip
                              refine g_aload_n F 0 rfl rfl dX5_turn_138 ?_
                              refine g_get F hV iX5 0 rfl rfl 5 (by decide) (List.mem_of_getElem? (i := 5) rfl) rfl dX5_turn_139 ?_
                              refine g_iload F 9 rfl dX5_turn_142 ?_
                              have r_42 := hsh (j)
                              refine g_zald F hV 6 rfl (j) (by omega) (by omega) (by decide) dX5_turn_144 ?_
                              refine g_if_ne F (tgt := 189) dX5_turn_145 (by decide) ⟨by omega, by omega⟩ (fun c_43 => ?_) (fun c_43 => ?_)
                              · skip
                                refine g_iinc F 9 rfl ([(11, iv ((((j : Nat) : Int)) + 1)), (0, .ref (t 0)), (1, iv (((line : Nat) : Int))), (2, iv (((k : Nat) : Int))), (3, iv ((((line : Nat) : Int)) * 6)), (4, iv (wyZ t_ce line k)), (5, jv (pv)), (7, iv (((i : Nat) : Int))), (8, iv ((((i : Nat) : Int)) * 6)), (9, jv (fc))]) rfl (by decide) dX5_turn_189 ?_
                                refine g_goto F (tgt := 116) dX5_turn_192 (by decide) ?_
                                refine g_lsub ([(0, .ref (t 0)), (1, iv (((line : Nat) : Int))), (2, iv (((k : Nat) : Int))), (3, iv ((((line : Nat) : Int)) * 6)), (4, iv (wyZ t_ce line k)), (5, jv (pv)), (7, iv (((i : Nat) : Int))), (8, iv ((((i : Nat) : Int)) * 6)), (9, jv (fc)), (11, iv ((((j : Nat) : Int)) + 1))]) [1, 2, 3, 4, 5, 6, 7, 8, 9, 0] rfl ?_
                                exact ih116 (j + 1) (mixZ (tnC t_ce t_sh t_nc line k t_bel (wyZ t_ce line k) pv) t_ce (i * 6 + j)) (by omega) (tn_skip (by omega) (by first | exact Or.inl (by omega) | exact Or.inr ⟨by omega, by omega⟩)) (by omega)
                              · skip
                                refine g_aload_n F 0 rfl rfl dX5_turn_148 ?_
                                refine g_get F hV iX5 0 rfl rfl 0 (by decide) (List.mem_of_getElem? (i := 1) rfl) rfl dX5_turn_149 ?_
                                refine g_iload F 7 rfl dX5_turn_152 ?_
                                refine g_iload F 9 rfl dX5_turn_154 ?_
                                refine g_iadd F dX5_turn_156 ?_
                                refine g_lload F 5 rfl dX5_turn_157 ?_
                                refine g_aload_n F 0 rfl rfl dX5_turn_159 ?_
                                refine g_get F hV iX5 0 rfl rfl 0 (by decide) (List.mem_of_getElem? (i := 1) rfl) rfl dX5_turn_160 ?_
                                refine g_iload F 7 rfl dX5_turn_163 ?_
                                refine g_iload F 9 rfl dX5_turn_165 ?_
                                refine g_iadd F dX5_turn_167 ?_
                                refine g_lald F hV 1 rfl ((i * 6) + j) (by omega) (by omega) (by decide) dX5_turn_168 ?_
                                obtain ⟨u1, hu1⟩ : ∃ y : Int, y = (mixZ (tnC t_ce t_sh t_nc line k t_bel (wyZ t_ce line k) pv) t_ce (i * 6 + j)) ((i * 6) + j) := ⟨_, rfl⟩
                                rw [← hu1]
                                rw [mix_ge (by omega)] at hu1
                                have hbu1 : u1.natAbs ≤ 100000000000 := by rw [hu1]; rcases (show j < 5 ∨ j = 5 by omega) with w | w; (have := hB i j w; omega); (subst w; have := hC i; omega)
                                refine g_lmul F dX5_turn_169 ?_
                                refine g_lload F 8 rfl dX5_turn_170 ?_
                                refine g_aload_n F 0 rfl rfl dX5_turn_172 ?_
                                refine g_get F hV iX5 0 rfl rfl 0 (by decide) (List.mem_of_getElem? (i := 1) rfl) rfl dX5_turn_173 ?_
                                refine g_iload_n F 3 rfl rfl dX5_turn_176 ?_
                                refine g_iload F 9 rfl dX5_turn_177 ?_
                                refine g_iadd F dX5_turn_179 ?_
                                refine g_lald F hV 1 rfl ((line * 6) + j) (by omega) (by omega) (by decide) dX5_turn_180 ?_
                                obtain ⟨u2, hu2⟩ : ∃ y : Int, y = (mixZ (tnC t_ce t_sh t_nc line k t_bel (wyZ t_ce line k) pv) t_ce (i * 6 + j)) ((line * 6) + j) := ⟨_, rfl⟩
                                rw [← hu2]
                                rw [mix_line (by omega)] at hu2
                                have hbu2 : u2.natAbs ≤ 100000000000 := by rw [hu2]; rcases (show j < 5 ∨ j = 5 by omega) with w | w; (have := hB line j w; omega); (subst w; have := hC line; omega)
                                have hm1 := mul_nat (x := pv) (y := u1) (a := 8000000) (b := 100000000000) (by omega) hbu1
                                have hm2 := mul_nat (x := fc) (y := u2) (a := 8000000) (b := 100000000000) hfb hbu2
                                refine g_lmul F dX5_turn_181 ?_
                                refine g_lsub2 F dX5_turn_182 ?_
                                refine g_aload_n F 0 rfl rfl dX5_turn_183 ?_
                                refine g_get F hV iX5 0 rfl rfl 8 (by decide) (List.mem_of_getElem? (i := 2) rfl) rfl dX5_turn_184 ?_
                                refine g_ldiv F ⟨by omega, by omega⟩ ⟨by omega, by omega⟩ (by omega) (tdiv_64 ⟨by omega, by omega⟩ (by omega) (by omega)) dX5_turn_187 ?_
                                refine g_last F 1 rfl ((i * 6) + j) (by omega) (by omega) (by decide) (wT cA t (va_up (mixZ (tnC t_ce t_sh t_nc line k t_bel (wyZ t_ce line k) pv) t_ce (i * 6 + j)) ((i * 6) + j) (Int.tdiv ((pv * u1) - (fc * u2)) t_bel)) (t_ti) (t_lo) (t_hi) (t_gl) (t_sh) (((t_nc : Nat) : Int)) (((t_nl : Nat) : Int)) (t_bel) (t_far)) rfl dX5_turn_188 ?_
                                refine g_iinc F 9 rfl ([(11, iv ((((j : Nat) : Int)) + 1)), (0, .ref (t 0)), (1, iv (((line : Nat) : Int))), (2, iv (((k : Nat) : Int))), (3, iv ((((line : Nat) : Int)) * 6)), (4, iv (wyZ t_ce line k)), (5, jv (pv)), (7, iv (((i : Nat) : Int))), (8, iv ((((i : Nat) : Int)) * 6)), (9, jv (fc))]) rfl (by decide) dX5_turn_189 ?_
                                refine g_goto F (tgt := 116) dX5_turn_192 (by decide) ?_
                                refine g_lsub ([(0, .ref (t 0)), (1, iv (((line : Nat) : Int))), (2, iv (((k : Nat) : Int))), (3, iv ((((line : Nat) : Int)) * 6)), (4, iv (wyZ t_ce line k)), (5, jv (pv)), (7, iv (((i : Nat) : Int))), (8, iv ((((i : Nat) : Int)) * 6)), (9, jv (fc)), (11, iv ((((j : Nat) : Int)) + 1))]) [1, 2, 3, 4, 5, 6, 7, 8, 9, 0] rfl ?_
                                exact ih116 (j + 1) (va_up (mixZ (tnC t_ce t_sh t_nc line k t_bel (wyZ t_ce line k) pv) t_ce (i * 6 + j)) ((i * 6) + j) (Int.tdiv ((pv * u1) - (fc * u2)) t_bel)) (by omega) (tn_put (by omega) (by omega) (by rw [← hfc]; omega) (by omega) (by omega) (by rw [hu1, hu2, hfc])) (by omega)
                    refine g_lsub ([(0, .ref (t 0)), (1, iv (((line : Nat) : Int))), (2, iv (((k : Nat) : Int))), (3, iv ((((line : Nat) : Int)) * 6)), (4, iv (wyZ t_ce line k)), (5, jv (pv)), (7, iv (((i : Nat) : Int))), (8, iv ((((i : Nat) : Int)) * 6)), (9, jv (fc)), (11, iv (0))]) [3, 4, 5, 6, 7, 8, 9, 2, 1, 0] rfl ?_
                    exact lp116 (_ + 1) 0 (mixZ (tnC t_ce t_sh t_nc line k t_bel (wyZ t_ce line k) pv) t_ce (i * 6)) (by omega) (rfl) (Nat.lt_succ_self _)
        refine g_lsub ([(0, .ref (t 0)), (1, iv (((line : Nat) : Int))), (2, iv (((k : Nat) : Int))), (3, iv ((((line : Nat) : Int)) * 6)), (4, iv (wyZ t_ce line k)), (5, jv (pv)), (7, iv (0))]) [4, 5, 6, 3, 2, 1, 0] rfl ?_
        exact lp59 (_ + 1) 0 t_ce (by omega) (mix_0 _ _).symm (Nat.lt_succ_self _)
      · skip
        exact absurd c_24 (by omega)
