def wpB (rk ct pr : Nat → Int) (r : Nat) : Bool := decide (ct r = 1 ∧ ((0 < pr r ∧ rk r = 0) ∨ (pr r < 0 ∧ rk r = 1)))
def leftZ (co ct sa pr : Nat → Int) (qb : Int) (c n : Nat) : Int := co c * qb - sumZ (fun r => if ct r = 1 then sa (r * 5 + c) * pr r else 0) n
theorem leftZ_in {co ct sa pr : Nat → Int} {qb : Int} {c n : Nat} (hn : n ≤ 7) (h1 : ∀ j, -9 ≤ co j ∧ co j ≤ 9) (h2 : ∀ j, -9 ≤ sa j ∧ sa j ≤ 9) (h3 : ∀ j, -1000000 ≤ pr j ∧ pr j ≤ 1000000) (h4 : 1 ≤ qb ∧ qb ≤ 1000000) : I64 (leftZ co ct sa pr qb c n) := by
  have a := mul_nat (x := co c) (y := qb) (a := 9) (b := 1000000) (by have := h1 c; omega) (by omega)
  have b := sum_abs (f := fun r => if ct r = 1 then sa (r * 5 + c) * pr r else 0) (B := 9000000) (fun j => by
    show (if ct j = 1 then sa (j * 5 + c) * pr j else 0).natAbs ≤ 9000000
    split
    · exact mul_nat (a := 9) (b := 1000000) (by have := h2 (j * 5 + c); omega) (by have := h3 j; omega)
    · decide) n
  have d : n * 9000000 ≤ 7 * 9000000 := Nat.mul_le_mul_right _ hn
  unfold leftZ
  constructor <;> omega
def wrB (lo hi co ct sa pr pl : Nat → Int) (qb pb : Int) (nr : Nat) (c : Nat) : Bool := decide ((leftZ co ct sa pr qb c nr < 0 ∧ ¬ (¬ hi c = -2000000005 ∧ pl c = hi c * pb)) ∨ (0 < leftZ co ct sa pr qb c nr ∧ ¬ pl c = lo c * pb))
def idB (nu ct sa pr pl : Nat → Int) (pb : Int) (nc : Nat) (r : Nat) : Bool := decide (ct r = 1 ∧ pr r ≠ 0 ∧ ¬ sumP sa pl nc r = nu r * pb)
def gbZ (va : Nat → Int) (bel : Int) : Nat → Nat
  | 0 => bel.natAbs
  | n + 1 => Int.gcd (gbZ va bel n : Int) (va n)
theorem gbZ_pos {va : Nat → Int} {bel : Int} (h : 0 < bel) : ∀ n, 0 < gbZ va bel n ∧ (gbZ va bel n : Int) ≤ bel
  | 0 => by
    show 0 < bel.natAbs ∧ ((bel.natAbs : Nat) : Int) ≤ bel
    omega
  | n + 1 => by
    have ih := gbZ_pos (va := va) h n
    show 0 < Int.gcd (gbZ va bel n : Int) (va n) ∧ ((Int.gcd (gbZ va bel n : Int) (va n) : Nat) : Int) ≤ bel
    have e : Int.gcd (gbZ va bel n : Int) (va n) ∣ gbZ va bel n := Int.ofNat_dvd.mp (Int.gcd_dvd_left _ _)
    have := Nat.le_of_dvd ih.1 e
    have := Nat.pos_of_dvd_of_pos e ih.1
    omega
def grV (va : Nat → Int) (bel : Int) : Nat → Int := fun c => Int.tdiv (va c) (gbZ va bel 5 : Nat)
def fdZ (a b c d : Bool) : Int := if !a then 1 else if b then 2 else if c then 3 else if d then 4 else 0
set_option maxHeartbeats 4000000 in
set_option maxRecDepth 100000 in
theorem kX1_hasWrongPrice (l : Launch) (D : va_G) (cA : Nat → ClassId) (h : Nat → Nat) (h_pl : Nat → Int) (h_pr : Nat → Int) (h_pb : Int) (h_qb : Int) (a : Nat → Nat) (a_kd : Nat → Int) (a_lo : Nat → Int) (a_hi : Nat → Int) (a_co : Nat → Int) (a_pa : Nat → Int) (a_rk : Nat → Int) (a_nu : Nat → Int) (a_ct : Nat → Int) (a_sa : Nat → Int) (a_nc : Nat) (a_nr : Nat) (qnr : a_nr ≤ 7) (hpr : ∀ j, -1000000 ≤ h_pr j ∧ h_pr j ≤ 1000000) (qrk : ∀ j, 0 ≤ a_rk j ∧ a_rk j ≤ 2) (qct : ∀ j, 0 ≤ a_ct j ∧ a_ct j ≤ 1) : CR l yX1_hasWrongPrice wsX1_hasWrongPrice ({ frames := 0, cells := 0, slots := 0, locals := 0 }) D cA [.ref (h 0), .ref (a 0)] (wH cA h (h_pl) (h_pr) (h_pb) (h_qb) ++ wP cA a (a_kd) (a_lo) (a_hi) (a_co) (a_pa) (a_rk) (a_nu) (a_ct) (a_sa) (((a_nc : Nat) : Int)) (((a_nr : Nat) : Int))) (fun ov => ov = some (iv (if 0 ≤ firstZ (wpB a_rk a_ct h_pr) a_nr then 1 else 0))) := by
  refine CR.mk (cc := cX1_hasWrongPrice) (maxL := 4) (ret := (some .boolean)) (by decide +kernel) rfl (Nat.le_of_ble_eq_true rfl) ?_
  intro p_ e_ s_ m_ b_ me_ c_ F
  have hV := @IR_P D s_
  have iX1 : ∀ w ∈ u_ws RX1 TX1 4, w ∈ wsX1_hasWrongPrice := by decide +kernel
  have iX2 : ∀ w ∈ u_ws RX2 TX2 11, w ∈ wsX1_hasWrongPrice := by decide +kernel
  refine g_lsub ([(0, .ref (h 0)), (1, .ref (a 0))]) [0, 1] rfl ?_
  refine g_iconst F dX1_hasWrongPrice_0 ?_
  refine g_istore_n F ([(2, iv (0)), (0, .ref (h 0)), (1, .ref (a 0))]) rfl rfl (by decide) dX1_hasWrongPrice_1 ?_
  have lp2 : ∀ (n : Nat) (r : Nat) (hr : r ≤ a_nr) (hj : ∀ j, j < r → (wpB a_rk a_ct h_pr) j = false), a_nr - r < n → GW p_ l e_ (headSpec wsX1_hasWrongPrice ({ frames := 0, cells := 0, slots := 0, locals := 0 })).room s_ m_ ([.ref (h 0), .ref (a 0)]).toArray b_ me_ c_ (MQ b_ (Qr (fun ov => ov = some (iv (if 0 ≤ firstZ (wpB a_rk a_ct h_pr) a_nr then 1 else 0)))) ([.ref (h 0), .ref (a 0)]).toArray s_ 0 0 (fun _ => False)) (IR D s_) 4 0 0 (wH cA h (h_pl) (h_pr) (h_pb) (h_qb) ++ wP cA a (a_kd) (a_lo) (a_hi) (a_co) (a_pa) (a_rk) (a_nu) (a_ct) (a_sa) (((a_nc : Nat) : Int)) (((a_nr : Nat) : Int))) ([(0, .ref (h 0)), (1, .ref (a 0)), (2, iv (((r : Nat) : Int)))]) [] 2 := by
    intro n; induction n with
    | zero => intro r; intros; omega
    | succ n ih2 =>
      intro r hr hj hmu2
      refine g_iload_n F 2 rfl rfl dX1_hasWrongPrice_2 ?_
      refine g_aload_n F 1 rfl rfl dX1_hasWrongPrice_3 ?_
      refine g_get F hV iX2 3 rfl rfl 10 (by decide) (List.mem_of_getElem? (i := 1) rfl) rfl dX1_hasWrongPrice_4 ?_
      refine g_icmp_ge F (tgt := 70) dX1_hasWrongPrice_7 (by decide) ⟨by omega, by omega⟩ ⟨by omega, by omega⟩ (fun c_1 => ?_) (fun c_1 => ?_)
      · skip
        refine g_iconst F dX1_hasWrongPrice_70 ?_
        exact g_zretR F rfl (nar_01 (Or.inl rfl)) (congrArg (fun z => some (iv z)) (show (0 : Int) = if 0 ≤ firstZ (wpB a_rk a_ct h_pr) a_nr then 1 else 0 by rw [firstZ_none (f := wpB a_rk a_ct h_pr) (fun j w => hj j (by omega)), if_neg (by decide)])) dX1_hasWrongPrice_71
      · skip
        refine g_aload_n F 1 rfl rfl dX1_hasWrongPrice_10 ?_
        refine g_get F hV iX2 3 rfl rfl 5 (by decide) (List.mem_of_getElem? (i := 2) rfl) rfl dX1_hasWrongPrice_11 ?_
        refine g_iload_n F 2 rfl rfl dX1_hasWrongPrice_14 ?_
        have r_2 := qrk (r)
        refine g_iald F hV 9 rfl (r) (by omega) (by omega) (by decide) dX1_hasWrongPrice_15 ?_
        refine g_aload_n F 0 rfl rfl dX1_hasWrongPrice_16 ?_
        refine g_get F hV iX1 0 rfl rfl 1 (by decide) (List.mem_of_getElem? (i := 3) rfl) rfl dX1_hasWrongPrice_17 ?_
        refine g_iload_n F 2 rfl rfl dX1_hasWrongPrice_20 ?_
        have r_3 := hpr (r)
        refine g_iald F hV 2 rfl (r) (by omega) (by omega) (by decide) dX1_hasWrongPrice_21 ?_
        refine g_if_le F (tgt := 29) dX1_hasWrongPrice_22 (by decide) ⟨by omega, by omega⟩ (fun c_4 => ?_) (fun c_4 => ?_)
        · skip
          refine g_iconst F dX1_hasWrongPrice_29 ?_
          refine g_icmp_ne F (tgt := 37) dX1_hasWrongPrice_30 (by decide) ⟨by omega, by omega⟩ ⟨by decide, by decide⟩ (fun c_5 => ?_) (fun c_5 => ?_)
          · skip
            refine g_iconst F dX1_hasWrongPrice_37 ?_
            refine g_istore_n F ([(3, iv (0)), (0, .ref (h 0)), (1, .ref (a 0)), (2, iv (((r : Nat) : Int)))]) rfl rfl (by decide) dX1_hasWrongPrice_38 ?_
            refine g_aload_n F 2 rfl rfl dX1_hasWrongPrice_39 ?_
            refine g_get F hV iX2 3 rfl rfl 7 (by decide) (List.mem_of_getElem? (i := 4) rfl) rfl dX1_hasWrongPrice_40 ?_
            refine g_iload_n F 3 rfl rfl dX1_hasWrongPrice_43 ?_
            have r_6 := qct (r)
            refine g_iald F hV 11 rfl (r) (by omega) (by omega) (by decide) dX1_hasWrongPrice_44 ?_
            refine g_iconst F dX1_hasWrongPrice_45 ?_
            refine g_icmp_ne F (tgt := 64) dX1_hasWrongPrice_46 (by decide) ⟨by omega, by omega⟩ ⟨by decide, by decide⟩ (fun c_7 => ?_) (fun c_7 => ?_)
            · skip
              refine g_iinc F 3 rfl ([(2, iv ((((r : Nat) : Int)) + 1)), (3, iv (0)), (0, .ref (h 0)), (1, .ref (a 0))]) rfl (by decide) dX1_hasWrongPrice_64 ?_
              refine g_goto F (tgt := 2) dX1_hasWrongPrice_67 (by decide) ?_
              refine g_lsub ([(0, .ref (h 0)), (1, .ref (a 0)), (2, iv ((((r : Nat) : Int)) + 1))]) [2, 3, 0] rfl ?_
              exact ih2 (r + 1) (by omega) (fun j w => by rcases (show j < r ∨ j = r by omega) with q | q; exact hj j q; subst q; unfold wpB; simp only [decide_eq_false_iff_not]; omega) (by omega)
            · skip
              refine g_aload_n F 1 rfl rfl dX1_hasWrongPrice_49 ?_
              refine g_get F hV iX1 0 rfl rfl 1 (by decide) (List.mem_of_getElem? (i := 3) rfl) rfl dX1_hasWrongPrice_50 ?_
              refine g_iload_n F 3 rfl rfl dX1_hasWrongPrice_53 ?_
              have r_8 := hpr (r)
              refine g_iald F hV 2 rfl (r) (by omega) (by omega) (by decide) dX1_hasWrongPrice_54 ?_
              refine g_if_eq F (tgt := 64) dX1_hasWrongPrice_55 (by decide) ⟨by omega, by omega⟩ (fun c_9 => ?_) (fun c_9 => ?_)
              · skip
                refine g_iinc F 3 rfl ([(2, iv ((((r : Nat) : Int)) + 1)), (3, iv (0)), (0, .ref (h 0)), (1, .ref (a 0))]) rfl (by decide) dX1_hasWrongPrice_64 ?_
                refine g_goto F (tgt := 2) dX1_hasWrongPrice_67 (by decide) ?_
                refine g_lsub ([(0, .ref (h 0)), (1, .ref (a 0)), (2, iv ((((r : Nat) : Int)) + 1))]) [2, 3, 0] rfl ?_
                exact ih2 (r + 1) (by omega) (fun j w => by rcases (show j < r ∨ j = r by omega) with q | q; exact hj j q; subst q; unfold wpB; simp only [decide_eq_false_iff_not]; omega) (by omega)
              · skip
                refine g_iload_n F 0 rfl rfl dX1_hasWrongPrice_58 ?_
                refine g_if_eq F (tgt := 64) dX1_hasWrongPrice_59 (by decide) ⟨by decide, by decide⟩ (fun c_10 => ?_) (fun c_10 => ?_)
                · skip
                  refine g_iinc F 3 rfl ([(2, iv ((((r : Nat) : Int)) + 1)), (3, iv (0)), (0, .ref (h 0)), (1, .ref (a 0))]) rfl (by decide) dX1_hasWrongPrice_64 ?_
                  refine g_goto F (tgt := 2) dX1_hasWrongPrice_67 (by decide) ?_
                  refine g_lsub ([(0, .ref (h 0)), (1, .ref (a 0)), (2, iv ((((r : Nat) : Int)) + 1))]) [2, 3, 0] rfl ?_
                  exact ih2 (r + 1) (by omega) (fun j w => by rcases (show j < r ∨ j = r by omega) with q | q; exact hj j q; subst q; unfold wpB; simp only [decide_eq_false_iff_not]; omega) (by omega)
                · skip
                  exfalso; omega
          · skip
            refine g_iconst F dX1_hasWrongPrice_33 ?_
            refine g_goto F (tgt := 38) dX1_hasWrongPrice_34 (by decide) ?_
            refine g_istore_n F ([(3, iv (1)), (0, .ref (h 0)), (1, .ref (a 0)), (2, iv (((r : Nat) : Int)))]) rfl rfl (by decide) dX1_hasWrongPrice_38 ?_
            refine g_aload_n F 2 rfl rfl dX1_hasWrongPrice_39 ?_
            refine g_get F hV iX2 3 rfl rfl 7 (by decide) (List.mem_of_getElem? (i := 4) rfl) rfl dX1_hasWrongPrice_40 ?_
            refine g_iload_n F 3 rfl rfl dX1_hasWrongPrice_43 ?_
            have r_11 := qct (r)
            refine g_iald F hV 11 rfl (r) (by omega) (by omega) (by decide) dX1_hasWrongPrice_44 ?_
            refine g_iconst F dX1_hasWrongPrice_45 ?_
            refine g_icmp_ne F (tgt := 64) dX1_hasWrongPrice_46 (by decide) ⟨by omega, by omega⟩ ⟨by decide, by decide⟩ (fun c_12 => ?_) (fun c_12 => ?_)
            · skip
              refine g_iinc F 3 rfl ([(2, iv ((((r : Nat) : Int)) + 1)), (3, iv (1)), (0, .ref (h 0)), (1, .ref (a 0))]) rfl (by decide) dX1_hasWrongPrice_64 ?_
              refine g_goto F (tgt := 2) dX1_hasWrongPrice_67 (by decide) ?_
              refine g_lsub ([(0, .ref (h 0)), (1, .ref (a 0)), (2, iv ((((r : Nat) : Int)) + 1))]) [2, 3, 0] rfl ?_
              exact ih2 (r + 1) (by omega) (fun j w => by rcases (show j < r ∨ j = r by omega) with q | q; exact hj j q; subst q; unfold wpB; simp only [decide_eq_false_iff_not]; omega) (by omega)
            · skip
              refine g_aload_n F 1 rfl rfl dX1_hasWrongPrice_49 ?_
              refine g_get F hV iX1 0 rfl rfl 1 (by decide) (List.mem_of_getElem? (i := 3) rfl) rfl dX1_hasWrongPrice_50 ?_
              refine g_iload_n F 3 rfl rfl dX1_hasWrongPrice_53 ?_
              have r_13 := hpr (r)
              refine g_iald F hV 2 rfl (r) (by omega) (by omega) (by decide) dX1_hasWrongPrice_54 ?_
              refine g_if_eq F (tgt := 64) dX1_hasWrongPrice_55 (by decide) ⟨by omega, by omega⟩ (fun c_14 => ?_) (fun c_14 => ?_)
              · skip
                refine g_iinc F 3 rfl ([(2, iv ((((r : Nat) : Int)) + 1)), (3, iv (1)), (0, .ref (h 0)), (1, .ref (a 0))]) rfl (by decide) dX1_hasWrongPrice_64 ?_
                refine g_goto F (tgt := 2) dX1_hasWrongPrice_67 (by decide) ?_
                refine g_lsub ([(0, .ref (h 0)), (1, .ref (a 0)), (2, iv ((((r : Nat) : Int)) + 1))]) [2, 3, 0] rfl ?_
                exact ih2 (r + 1) (by omega) (fun j w => by rcases (show j < r ∨ j = r by omega) with q | q; exact hj j q; subst q; unfold wpB; simp only [decide_eq_false_iff_not]; omega) (by omega)
              · skip
                refine g_iload_n F 0 rfl rfl dX1_hasWrongPrice_58 ?_
                refine g_if_eq F (tgt := 64) dX1_hasWrongPrice_59 (by decide) ⟨by decide, by decide⟩ (fun c_15 => ?_) (fun c_15 => ?_)
                · skip
                  exfalso; omega
                · skip
                  refine g_iconst F dX1_hasWrongPrice_62 ?_
                  exact g_zretR F rfl (nar_01 (Or.inr rfl)) (congrArg (fun z => some (iv z)) (show (1 : Int) = if 0 ≤ firstZ (wpB a_rk a_ct h_pr) a_nr then 1 else 0 by rw [firstZ_at (f := wpB a_rk a_ct h_pr) (i := r) hj (by unfold wpB; simp only [decide_eq_true_eq]; omega) (by omega)]; rw [if_pos (by omega)])) dX1_hasWrongPrice_63
        · skip
          refine g_iconst F dX1_hasWrongPrice_25 ?_
          refine g_goto F (tgt := 30) dX1_hasWrongPrice_26 (by decide) ?_
          refine g_icmp_ne F (tgt := 37) dX1_hasWrongPrice_30 (by decide) ⟨by omega, by omega⟩ ⟨by decide, by decide⟩ (fun c_16 => ?_) (fun c_16 => ?_)
          · skip
            refine g_iconst F dX1_hasWrongPrice_37 ?_
            refine g_istore_n F ([(3, iv (0)), (0, .ref (h 0)), (1, .ref (a 0)), (2, iv (((r : Nat) : Int)))]) rfl rfl (by decide) dX1_hasWrongPrice_38 ?_
            refine g_aload_n F 2 rfl rfl dX1_hasWrongPrice_39 ?_
            refine g_get F hV iX2 3 rfl rfl 7 (by decide) (List.mem_of_getElem? (i := 4) rfl) rfl dX1_hasWrongPrice_40 ?_
            refine g_iload_n F 3 rfl rfl dX1_hasWrongPrice_43 ?_
            have r_17 := qct (r)
            refine g_iald F hV 11 rfl (r) (by omega) (by omega) (by decide) dX1_hasWrongPrice_44 ?_
            refine g_iconst F dX1_hasWrongPrice_45 ?_
            refine g_icmp_ne F (tgt := 64) dX1_hasWrongPrice_46 (by decide) ⟨by omega, by omega⟩ ⟨by decide, by decide⟩ (fun c_18 => ?_) (fun c_18 => ?_)
            · skip
              refine g_iinc F 3 rfl ([(2, iv ((((r : Nat) : Int)) + 1)), (3, iv (0)), (0, .ref (h 0)), (1, .ref (a 0))]) rfl (by decide) dX1_hasWrongPrice_64 ?_
              refine g_goto F (tgt := 2) dX1_hasWrongPrice_67 (by decide) ?_
              refine g_lsub ([(0, .ref (h 0)), (1, .ref (a 0)), (2, iv ((((r : Nat) : Int)) + 1))]) [2, 3, 0] rfl ?_
              exact ih2 (r + 1) (by omega) (fun j w => by rcases (show j < r ∨ j = r by omega) with q | q; exact hj j q; subst q; unfold wpB; simp only [decide_eq_false_iff_not]; omega) (by omega)
            · skip
              refine g_aload_n F 1 rfl rfl dX1_hasWrongPrice_49 ?_
              refine g_get F hV iX1 0 rfl rfl 1 (by decide) (List.mem_of_getElem? (i := 3) rfl) rfl dX1_hasWrongPrice_50 ?_
              refine g_iload_n F 3 rfl rfl dX1_hasWrongPrice_53 ?_
              have r_19 := hpr (r)
              refine g_iald F hV 2 rfl (r) (by omega) (by omega) (by decide) dX1_hasWrongPrice_54 ?_
              refine g_if_eq F (tgt := 64) dX1_hasWrongPrice_55 (by decide) ⟨by omega, by omega⟩ (fun c_20 => ?_) (fun c_20 => ?_)
              · skip
                refine g_iinc F 3 rfl ([(2, iv ((((r : Nat) : Int)) + 1)), (3, iv (0)), (0, .ref (h 0)), (1, .ref (a 0))]) rfl (by decide) dX1_hasWrongPrice_64 ?_
                refine g_goto F (tgt := 2) dX1_hasWrongPrice_67 (by decide) ?_
                refine g_lsub ([(0, .ref (h 0)), (1, .ref (a 0)), (2, iv ((((r : Nat) : Int)) + 1))]) [2, 3, 0] rfl ?_
                exact ih2 (r + 1) (by omega) (fun j w => by rcases (show j < r ∨ j = r by omega) with q | q; exact hj j q; subst q; unfold wpB; simp only [decide_eq_false_iff_not]; omega) (by omega)
              · skip
                refine g_iload_n F 0 rfl rfl dX1_hasWrongPrice_58 ?_
                refine g_if_eq F (tgt := 64) dX1_hasWrongPrice_59 (by decide) ⟨by decide, by decide⟩ (fun c_21 => ?_) (fun c_21 => ?_)
                · skip
                  refine g_iinc F 3 rfl ([(2, iv ((((r : Nat) : Int)) + 1)), (3, iv (0)), (0, .ref (h 0)), (1, .ref (a 0))]) rfl (by decide) dX1_hasWrongPrice_64 ?_
                  refine g_goto F (tgt := 2) dX1_hasWrongPrice_67 (by decide) ?_
                  refine g_lsub ([(0, .ref (h 0)), (1, .ref (a 0)), (2, iv ((((r : Nat) : Int)) + 1))]) [2, 3, 0] rfl ?_
                  exact ih2 (r + 1) (by omega) (fun j w => by rcases (show j < r ∨ j = r by omega) with q | q; exact hj j q; subst q; unfold wpB; simp only [decide_eq_false_iff_not]; omega) (by omega)
                · skip
                  exfalso; omega
          · skip
            refine g_iconst F dX1_hasWrongPrice_33 ?_
            refine g_goto F (tgt := 38) dX1_hasWrongPrice_34 (by decide) ?_
            refine g_istore_n F ([(3, iv (1)), (0, .ref (h 0)), (1, .ref (a 0)), (2, iv (((r : Nat) : Int)))]) rfl rfl (by decide) dX1_hasWrongPrice_38 ?_
            refine g_aload_n F 2 rfl rfl dX1_hasWrongPrice_39 ?_
            refine g_get F hV iX2 3 rfl rfl 7 (by decide) (List.mem_of_getElem? (i := 4) rfl) rfl dX1_hasWrongPrice_40 ?_
            refine g_iload_n F 3 rfl rfl dX1_hasWrongPrice_43 ?_
            have r_22 := qct (r)
            refine g_iald F hV 11 rfl (r) (by omega) (by omega) (by decide) dX1_hasWrongPrice_44 ?_
            refine g_iconst F dX1_hasWrongPrice_45 ?_
            refine g_icmp_ne F (tgt := 64) dX1_hasWrongPrice_46 (by decide) ⟨by omega, by omega⟩ ⟨by decide, by decide⟩ (fun c_23 => ?_) (fun c_23 => ?_)
            · skip
              refine g_iinc F 3 rfl ([(2, iv ((((r : Nat) : Int)) + 1)), (3, iv (1)), (0, .ref (h 0)), (1, .ref (a 0))]) rfl (by decide) dX1_hasWrongPrice_64 ?_
              refine g_goto F (tgt := 2) dX1_hasWrongPrice_67 (by decide) ?_
              refine g_lsub ([(0, .ref (h 0)), (1, .ref (a 0)), (2, iv ((((r : Nat) : Int)) + 1))]) [2, 3, 0] rfl ?_
              exact ih2 (r + 1) (by omega) (fun j w => by rcases (show j < r ∨ j = r by omega) with q | q; exact hj j q; subst q; unfold wpB; simp only [decide_eq_false_iff_not]; omega) (by omega)
            · skip
              refine g_aload_n F 1 rfl rfl dX1_hasWrongPrice_49 ?_
              refine g_get F hV iX1 0 rfl rfl 1 (by decide) (List.mem_of_getElem? (i := 3) rfl) rfl dX1_hasWrongPrice_50 ?_
              refine g_iload_n F 3 rfl rfl dX1_hasWrongPrice_53 ?_
              have r_24 := hpr (r)
              refine g_iald F hV 2 rfl (r) (by omega) (by omega) (by decide) dX1_hasWrongPrice_54 ?_
              refine g_if_eq F (tgt := 64) dX1_hasWrongPrice_55 (by decide) ⟨by omega, by omega⟩ (fun c_25 => ?_) (fun c_25 => ?_)
              · skip
                refine g_iinc F 3 rfl ([(2, iv ((((r : Nat) : Int)) + 1)), (3, iv (1)), (0, .ref (h 0)), (1, .ref (a 0))]) rfl (by decide) dX1_hasWrongPrice_64 ?_
                refine g_goto F (tgt := 2) dX1_hasWrongPrice_67 (by decide) ?_
                refine g_lsub ([(0, .ref (h 0)), (1, .ref (a 0)), (2, iv ((((r : Nat) : Int)) + 1))]) [2, 3, 0] rfl ?_
                exact ih2 (r + 1) (by omega) (fun j w => by rcases (show j < r ∨ j = r by omega) with q | q; exact hj j q; subst q; unfold wpB; simp only [decide_eq_false_iff_not]; omega) (by omega)
              · skip
                refine g_iload_n F 0 rfl rfl dX1_hasWrongPrice_58 ?_
                refine g_if_eq F (tgt := 64) dX1_hasWrongPrice_59 (by decide) ⟨by decide, by decide⟩ (fun c_26 => ?_) (fun c_26 => ?_)
                · skip
                  exfalso; omega
                · skip
                  refine g_iconst F dX1_hasWrongPrice_62 ?_
                  exact g_zretR F rfl (nar_01 (Or.inr rfl)) (congrArg (fun z => some (iv z)) (show (1 : Int) = if 0 ≤ firstZ (wpB a_rk a_ct h_pr) a_nr then 1 else 0 by rw [firstZ_at (f := wpB a_rk a_ct h_pr) (i := r) hj (by unfold wpB; simp only [decide_eq_true_eq]; omega) (by omega)]; rw [if_pos (by omega)])) dX1_hasWrongPrice_63
  refine g_lsub ([(0, .ref (h 0)), (1, .ref (a 0)), (2, iv (0))]) [1, 2, 0] rfl ?_
  exact lp2 (_ + 1) 0 (by omega) (fun j w => absurd w (Nat.not_lt_zero j)) (Nat.lt_succ_self _)

set_option maxHeartbeats 4000000 in
set_option maxRecDepth 100000 in
theorem kX1_leftOf (l : Launch) (D : va_G) (cA : Nat → ClassId) (h : Nat → Nat) (h_pl : Nat → Int) (h_pr : Nat → Int) (h_pb : Int) (h_qb : Int) (a : Nat → Nat) (a_kd : Nat → Int) (a_lo : Nat → Int) (a_hi : Nat → Int) (a_co : Nat → Int) (a_pa : Nat → Int) (a_rk : Nat → Int) (a_nu : Nat → Int) (a_ct : Nat → Int) (a_sa : Nat → Int) (a_nc : Nat) (a_nr : Nat) (c : Nat) (hc : c < 5) (qnr : a_nr ≤ 7) (hpr : ∀ j, -1000000 ≤ h_pr j ∧ h_pr j ≤ 1000000) (hqb : 1 ≤ h_qb ∧ h_qb ≤ 1000000) (qco : ∀ j, -9 ≤ a_co j ∧ a_co j ≤ 9) (qsa : ∀ j, -9 ≤ a_sa j ∧ a_sa j ≤ 9) (qct : ∀ j, 0 ≤ a_ct j ∧ a_ct j ≤ 1) : CR l yX1_leftOf wsX1_leftOf ({ frames := 1, cells := 0, slots := 0, locals := 22 }) D cA [.ref (h 0), .ref (a 0), iv (((c : Nat) : Int))] (wH cA h (h_pl) (h_pr) (h_pb) (h_qb) ++ wP cA a (a_kd) (a_lo) (a_hi) (a_co) (a_pa) (a_rk) (a_nu) (a_ct) (a_sa) (((a_nc : Nat) : Int)) (((a_nr : Nat) : Int))) (fun ov => ov = some (jv (leftZ a_co a_ct a_sa h_pr h_qb c a_nr))) := by
  refine CR.mk (cc := cX1_leftOf) (maxL := 6) (ret := (some .long)) (by decide +kernel) rfl (Nat.le_of_ble_eq_true rfl) ?_
  intro p_ e_ s_ m_ b_ me_ c_ F
  have hV := @IR_P D s_
  have iX1 : ∀ w ∈ u_ws RX1 TX1 4, w ∈ wsX1_leftOf := by decide +kernel
  have iX2 : ∀ w ∈ u_ws RX2 TX2 11, w ∈ wsX1_leftOf := by decide +kernel
  refine g_lsub ([(0, .ref (h 0)), (1, .ref (a 0)), (2, iv (((c : Nat) : Int)))]) [0, 1, 2] rfl ?_
  refine g_aload_n F 1 rfl rfl dX1_leftOf_0 ?_
  refine g_get F hV iX2 3 rfl rfl 3 (by decide) (List.mem_of_getElem? (i := 1) rfl) rfl dX1_leftOf_1 ?_
  refine g_iload_n F 2 rfl rfl dX1_leftOf_4 ?_
  have r_1 := qco (c)
  refine g_iald F hV 7 rfl (c) (by omega) (by omega) (by decide) dX1_leftOf_5 ?_
  refine g_i2l F ⟨by omega, by omega⟩ dX1_leftOf_6 ?_
  refine g_aload_n F 0 rfl rfl dX1_leftOf_7 ?_
  refine g_get F hV iX1 0 rfl rfl 3 (by decide) (List.mem_of_getElem? (i := 2) rfl) rfl dX1_leftOf_8 ?_
  refine g_i2l F ⟨by omega, by omega⟩ dX1_leftOf_11 ?_
  refine g_lmul F dX1_leftOf_12 ?_
  refine g_lstore_n F ([(3, jv ((a_co c) * h_qb)), (0, .ref (h 0)), (1, .ref (a 0)), (2, iv (((c : Nat) : Int)))]) rfl rfl (by decide) dX1_leftOf_13 ?_
  refine g_iconst F dX1_leftOf_14 ?_
  refine g_istore F ([(5, iv (0)), (3, jv ((a_co c) * h_qb)), (0, .ref (h 0)), (1, .ref (a 0)), (2, iv (((c : Nat) : Int)))]) rfl (by decide) dX1_leftOf_15 ?_
  have lp17 : ∀ (n : Nat) (r : Nat) (x : Int) (hr : r ≤ a_nr) (hx : x = leftZ a_co a_ct a_sa h_pr h_qb c r), a_nr - r < n → GW p_ l e_ (headSpec wsX1_leftOf ({ frames := 1, cells := 0, slots := 0, locals := 22 })).room s_ m_ ([.ref (h 0), .ref (a 0), iv (((c : Nat) : Int))]).toArray b_ me_ c_ (MQ b_ (Qr (fun ov => ov = some (jv (leftZ a_co a_ct a_sa h_pr h_qb c a_nr)))) ([.ref (h 0), .ref (a 0), iv (((c : Nat) : Int))]).toArray s_ 0 0 (fun _ => False)) (IR D s_) 6 0 0 (wH cA h (h_pl) (h_pr) (h_pb) (h_qb) ++ wP cA a (a_kd) (a_lo) (a_hi) (a_co) (a_pa) (a_rk) (a_nu) (a_ct) (a_sa) (((a_nc : Nat) : Int)) (((a_nr : Nat) : Int))) ([(0, .ref (h 0)), (1, .ref (a 0)), (2, iv (((c : Nat) : Int))), (3, jv (x)), (5, iv (((r : Nat) : Int)))]) [] 17 := by
    intro n; induction n with
    | zero => intro r x; intros; omega
    | succ n ih17 =>
      intro r x hr hx hmu17
      refine g_iload F 4 rfl dX1_leftOf_17 ?_
      refine g_aload_n F 1 rfl rfl dX1_leftOf_19 ?_
      refine g_get F hV iX2 3 rfl rfl 10 (by decide) (List.mem_of_getElem? (i := 3) rfl) rfl dX1_leftOf_20 ?_
      refine g_icmp_ge F (tgt := 63) dX1_leftOf_23 (by decide) ⟨by omega, by omega⟩ ⟨by omega, by omega⟩ (fun c_2 => ?_) (fun c_2 => ?_)
      · skip
        refine g_lload_n F 3 rfl rfl dX1_leftOf_63 ?_
        exact g_lretR F rfl (congrArg (fun z => some (jv z)) (show (x : Int) = leftZ a_co a_ct a_sa h_pr h_qb c a_nr by rw [hx, show r = a_nr by omega])) dX1_leftOf_64
      · skip
        refine g_aload_n F 1 rfl rfl dX1_leftOf_26 ?_
        refine g_get F hV iX2 3 rfl rfl 7 (by decide) (List.mem_of_getElem? (i := 4) rfl) rfl dX1_leftOf_27 ?_
        refine g_iload F 4 rfl dX1_leftOf_30 ?_
        have r_3 := qct (r)
        refine g_iald F hV 11 rfl (r) (by omega) (by omega) (by decide) dX1_leftOf_32 ?_
        refine g_iconst F dX1_leftOf_33 ?_
        refine g_icmp_ne F (tgt := 57) dX1_leftOf_34 (by decide) ⟨by omega, by omega⟩ ⟨by decide, by decide⟩ (fun c_4 => ?_) (fun c_4 => ?_)
        · skip
          refine g_iinc F 4 rfl ([(5, iv ((((r : Nat) : Int)) + 1)), (0, .ref (h 0)), (1, .ref (a 0)), (2, iv (((c : Nat) : Int))), (3, jv (x))]) rfl (by decide) dX1_leftOf_57 ?_
          refine g_goto F (tgt := 17) dX1_leftOf_60 (by decide) ?_
          refine g_lsub ([(0, .ref (h 0)), (1, .ref (a 0)), (2, iv (((c : Nat) : Int))), (3, jv (x)), (5, iv ((((r : Nat) : Int)) + 1))]) [1, 2, 3, 4, 0] rfl ?_
          exact ih17 (r + 1) x (by omega) (by rw [hx]; unfold leftZ; show _ = a_co c * h_qb - (sumZ _ r + _); simp only []; first | (rw [if_pos (by omega)]; omega) | (rw [if_neg (by omega)]; omega)) (by omega)
        · skip
          refine g_lload_n F 3 rfl rfl dX1_leftOf_37 ?_
          refine g_aload_n F 1 rfl rfl dX1_leftOf_38 ?_
          refine g_iload F 4 rfl dX1_leftOf_39 ?_
          refine g_iload_n F 2 rfl rfl dX1_leftOf_41 ?_
          refine g_callRV F hV (As := [iv (((r : Nat) : Int)), iv (((c : Nat) : Int))]) (rest := [jv (x)]) (kX2_shareOf l D cA a a_kd a_lo a_hi a_co a_pa a_rk a_nu a_ct a_sa a_nc a_nr r c (by omega) (by omega)) (cwV 2 F.2.2.2.2.1 gX1_leftOf_X2_shareOf rfl rfl rfl (by decide +kernel) ⟨Nat.le_of_ble_eq_true rfl, Nat.le_of_ble_eq_true rfl⟩) rfl rfl (q0 := 0) rfl [3, 4, 5, 6, 7, 8, 9, 10, 11, 12] rfl rfl rfl (Nat.le_of_ble_eq_true rfl) ⟨Nat.le_of_ble_eq_true rfl, Nat.le_of_ble_eq_true rfl⟩ dX1_leftOf_42 (fun v hv => ?_)
          subst hv
          refine g_eq (st' := [iv (a_sa (r * 5 + c)), jv (x)]) rfl rfl rfl ?_
          have hs9 := qsa (r * 5 + c)
          refine g_i2l F ⟨by omega, by omega⟩ dX1_leftOf_45 ?_
          refine g_aload_n F 0 rfl rfl dX1_leftOf_46 ?_
          refine g_get F hV iX1 0 rfl rfl 1 (by decide) (List.mem_of_getElem? (i := 5) rfl) rfl dX1_leftOf_47 ?_
          refine g_iload F 4 rfl dX1_leftOf_50 ?_
          have r_5 := hpr (r)
          refine g_iald F hV 2 rfl (r) (by omega) (by omega) (by decide) dX1_leftOf_52 ?_
          refine g_i2l F ⟨by omega, by omega⟩ dX1_leftOf_53 ?_
          refine g_lmul F dX1_leftOf_54 ?_
          refine g_lsub2 F dX1_leftOf_55 ?_
          refine g_lstore_n F ([(3, jv (x - ((a_sa (r * 5 + c)) * (h_pr r)))), (0, .ref (h 0)), (1, .ref (a 0)), (2, iv (((c : Nat) : Int))), (5, iv (((r : Nat) : Int)))]) rfl rfl (by decide) dX1_leftOf_56 ?_
          refine g_iinc F 4 rfl ([(5, iv ((((r : Nat) : Int)) + 1)), (3, jv (x - ((a_sa (r * 5 + c)) * (h_pr r)))), (0, .ref (h 0)), (1, .ref (a 0)), (2, iv (((c : Nat) : Int)))]) rfl (by decide) dX1_leftOf_57 ?_
          refine g_goto F (tgt := 17) dX1_leftOf_60 (by decide) ?_
          refine g_lsub ([(0, .ref (h 0)), (1, .ref (a 0)), (2, iv (((c : Nat) : Int))), (3, jv (x - ((a_sa (r * 5 + c)) * (h_pr r)))), (5, iv ((((r : Nat) : Int)) + 1))]) [2, 3, 4, 1, 0] rfl ?_
          exact ih17 (r + 1) (x - ((a_sa (r * 5 + c)) * (h_pr r))) (by omega) (by rw [hx]; unfold leftZ; show _ = a_co c * h_qb - (sumZ _ r + _); simp only []; first | (rw [if_pos (by omega)]; omega) | (rw [if_neg (by omega)]; omega)) (by omega)
  refine g_lsub ([(0, .ref (h 0)), (1, .ref (a 0)), (2, iv (((c : Nat) : Int))), (3, jv ((a_co c) * h_qb)), (5, iv (0))]) [2, 3, 4, 1, 0] rfl ?_
  exact lp17 (_ + 1) 0 (a_co c * h_qb) (by omega) (by unfold leftZ; exact (Int.sub_zero _).symm) (Nat.lt_succ_self _)

set_option maxHeartbeats 4000000 in
set_option maxRecDepth 100000 in
theorem kX1_hasWrongRest (l : Launch) (D : va_G) (cA : Nat → ClassId) (h : Nat → Nat) (h_pl : Nat → Int) (h_pr : Nat → Int) (h_pb : Int) (h_qb : Int) (a : Nat → Nat) (a_kd : Nat → Int) (a_lo : Nat → Int) (a_hi : Nat → Int) (a_co : Nat → Int) (a_pa : Nat → Int) (a_rk : Nat → Int) (a_nu : Nat → Int) (a_ct : Nat → Int) (a_sa : Nat → Int) (a_nc : Nat) (a_nr : Nat) (qnc : a_nc ≤ 5) (qnr : a_nr ≤ 7) (hpl : ∀ j, -200000000000 ≤ h_pl j ∧ h_pl j ≤ 200000000000) (hpb : 0 < h_pb ∧ h_pb ≤ 8000000) (hpr : ∀ j, -1000000 ≤ h_pr j ∧ h_pr j ≤ 1000000) (hqb : 1 ≤ h_qb ∧ h_qb ≤ 1000000) (qlo : ∀ j, -20 ≤ a_lo j ∧ a_lo j ≤ 20) (qhi : ∀ j, a_hi j = -2000000005 ∨ (-20 ≤ a_hi j ∧ a_hi j ≤ 20)) (qco : ∀ j, -9 ≤ a_co j ∧ a_co j ≤ 9) (qsa : ∀ j, -9 ≤ a_sa j ∧ a_sa j ≤ 9) (qct : ∀ j, 0 ≤ a_ct j ∧ a_ct j ≤ 1) : CR l yX1_hasWrongRest wsX1_hasWrongRest ({ frames := 2, cells := 0, slots := 0, locals := 47 }) D cA [.ref (h 0), .ref (a 0)] (wH cA h (h_pl) (h_pr) (h_pb) (h_qb) ++ wP cA a (a_kd) (a_lo) (a_hi) (a_co) (a_pa) (a_rk) (a_nu) (a_ct) (a_sa) (((a_nc : Nat) : Int)) (((a_nr : Nat) : Int))) (fun ov => ov = some (iv (if 0 ≤ firstZ (wrB a_lo a_hi a_co a_ct a_sa h_pr h_pl h_qb h_pb a_nr) a_nc then 1 else 0))) := by
  refine CR.mk (cc := cX1_hasWrongRest) (maxL := 5) (ret := (some .boolean)) (by decide +kernel) rfl (Nat.le_of_ble_eq_true rfl) ?_
  intro p_ e_ s_ m_ b_ me_ c_ F
  have hV := @IR_P D s_
  have iX2 : ∀ w ∈ u_ws RX2 TX2 11, w ∈ wsX1_hasWrongRest := by decide +kernel
  refine g_lsub ([(0, .ref (h 0)), (1, .ref (a 0))]) [0, 1] rfl ?_
  refine g_iconst F dX1_hasWrongRest_0 ?_
  refine g_istore_n F ([(2, iv (0)), (0, .ref (h 0)), (1, .ref (a 0))]) rfl rfl (by decide) dX1_hasWrongRest_1 ?_
  have lp2 : ∀ (n : Nat) (c : Nat) (hc : c ≤ a_nc) (hj : ∀ j, j < c → (wrB a_lo a_hi a_co a_ct a_sa h_pr h_pl h_qb h_pb a_nr) j = false), a_nc - c < n → GW p_ l e_ (headSpec wsX1_hasWrongRest ({ frames := 2, cells := 0, slots := 0, locals := 47 })).room s_ m_ ([.ref (h 0), .ref (a 0)]).toArray b_ me_ c_ (MQ b_ (Qr (fun ov => ov = some (iv (if 0 ≤ firstZ (wrB a_lo a_hi a_co a_ct a_sa h_pr h_pl h_qb h_pb a_nr) a_nc then 1 else 0)))) ([.ref (h 0), .ref (a 0)]).toArray s_ 0 0 (fun _ => False)) (IR D s_) 5 0 0 (wH cA h (h_pl) (h_pr) (h_pb) (h_qb) ++ wP cA a (a_kd) (a_lo) (a_hi) (a_co) (a_pa) (a_rk) (a_nu) (a_ct) (a_sa) (((a_nc : Nat) : Int)) (((a_nr : Nat) : Int))) ([(0, .ref (h 0)), (1, .ref (a 0)), (2, iv (((c : Nat) : Int)))]) [] 2 := by
    intro n; induction n with
    | zero => intro c; intros; omega
    | succ n ih2 =>
      intro c hc hj hmu2
      refine g_iload_n F 2 rfl rfl dX1_hasWrongRest_2 ?_
      refine g_aload_n F 1 rfl rfl dX1_hasWrongRest_3 ?_
      refine g_get F hV iX2 3 rfl rfl 9 (by decide) (List.mem_of_getElem? (i := 1) rfl) rfl dX1_hasWrongRest_4 ?_
      refine g_icmp_ge F (tgt := 57) dX1_hasWrongRest_7 (by decide) ⟨by omega, by omega⟩ ⟨by omega, by omega⟩ (fun c_1 => ?_) (fun c_1 => ?_)
      · skip
        refine g_iconst F dX1_hasWrongRest_57 ?_
        exact g_zretR F rfl (nar_01 (Or.inl rfl)) (congrArg (fun z => some (iv z)) (show (0 : Int) = if 0 ≤ firstZ (wrB a_lo a_hi a_co a_ct a_sa h_pr h_pl h_qb h_pb a_nr) a_nc then 1 else 0 by rw [firstZ_none (f := wrB a_lo a_hi a_co a_ct a_sa h_pr h_pl h_qb h_pb a_nr) (fun j w => hj j (by omega)), if_neg (by decide)])) dX1_hasWrongRest_58
      · skip
        refine g_aload_n F 0 rfl rfl dX1_hasWrongRest_10 ?_
        refine g_aload_n F 1 rfl rfl dX1_hasWrongRest_11 ?_
        refine g_iload_n F 2 rfl rfl dX1_hasWrongRest_12 ?_
        refine g_callRV F hV (As := [.ref (a 0), iv (((c : Nat) : Int))]) (rest := []) (kX1_leftOf l D cA h h_pl h_pr h_pb h_qb a a_kd a_lo a_hi a_co a_pa a_rk a_nu a_ct a_sa a_nc a_nr c (by omega) (qnr) (hpr) (hqb) (qco) (qsa) (qct)) (cwV 2 F.2.2.2.2.1 gX1_hasWrongRest_X1_leftOf rfl rfl rfl (by decide +kernel) ⟨Nat.le_of_ble_eq_true rfl, Nat.le_of_ble_eq_true rfl⟩) rfl rfl (q0 := 0) rfl [0, 1, 2, 3, 4, 5, 6, 7, 8, 9, 10, 11, 12] rfl rfl rfl (Nat.le_of_ble_eq_true rfl) ⟨Nat.le_of_ble_eq_true rfl, Nat.le_of_ble_eq_true rfl⟩ dX1_hasWrongRest_13 (fun v hv => ?_)
        subst hv
        refine g_eq (st' := [jv (leftZ a_co a_ct a_sa h_pr h_qb c a_nr)]) rfl rfl rfl ?_
        refine g_lstore_n F ([(3, jv (leftZ a_co a_ct a_sa h_pr h_qb c a_nr)), (0, .ref (h 0)), (1, .ref (a 0)), (2, iv (((c : Nat) : Int)))]) rfl rfl (by decide) dX1_hasWrongRest_16 ?_
        refine g_lload_n F 0 rfl rfl dX1_hasWrongRest_17 ?_
        refine g_lconst F (z := 0) dX1_hasWrongRest_18 (by decide) ?_
        refine g_lcmp_ge F (tgt := 34) dX1_hasWrongRest_19 dX1_hasWrongRest_20 (by decide) (leftZ_in qnr qco qsa hpr hqb) ⟨by decide, by decide⟩ (fun c_2 => ?_) (fun c_2 => ?_)
        · skip
          refine g_lload_n F 0 rfl rfl dX1_hasWrongRest_34 ?_
          refine g_lconst F (z := 0) dX1_hasWrongRest_35 (by decide) ?_
          refine g_lcmp_le F (tgt := 51) dX1_hasWrongRest_36 dX1_hasWrongRest_37 (by decide) (leftZ_in qnr qco qsa hpr hqb) ⟨by decide, by decide⟩ (fun c_3 => ?_) (fun c_3 => ?_)
          · skip
            refine g_iinc F 3 rfl ([(2, iv ((((c : Nat) : Int)) + 1)), (3, jv (leftZ a_co a_ct a_sa h_pr h_qb c a_nr)), (0, .ref (h 0)), (1, .ref (a 0))]) rfl (by decide) dX1_hasWrongRest_51 ?_
            refine g_goto F (tgt := 2) dX1_hasWrongRest_54 (by decide) ?_
            refine g_lsub ([(0, .ref (h 0)), (1, .ref (a 0)), (2, iv ((((c : Nat) : Int)) + 1))]) [2, 3, 0] rfl ?_
            exact ih2 (c + 1) (by omega) (fun j w => by rcases (show j < c ∨ j = c by omega) with q | q; exact hj j q; subst q; unfold wrB; simp only [decide_eq_false_iff_not]; first | omega | (rintro (⟨q1, q2⟩ | ⟨q1, q2⟩) <;> first | omega | exact absurd (by assumption) q2)) (by omega)
          · skip
            refine g_aload_n F 1 rfl rfl dX1_hasWrongRest_40 ?_
            refine g_aload_n F 2 rfl rfl dX1_hasWrongRest_41 ?_
            refine g_iload_n F 3 rfl rfl dX1_hasWrongRest_42 ?_
            refine g_callRV F hV (As := [.ref (a 0), iv (((c : Nat) : Int))]) (rest := []) (kX1_isAtLeastOf l D cA h h_pl h_pr h_pb h_qb a a_kd a_lo a_hi a_co a_pa a_rk a_nu a_ct a_sa a_nc a_nr c (by omega) (hpl) (hpb) (qlo)) (cwV 2 F.2.2.2.2.1 gX1_hasWrongRest_X1_isAtLeastOf rfl rfl rfl (by decide +kernel) ⟨Nat.le_of_ble_eq_true rfl, Nat.le_of_ble_eq_true rfl⟩) rfl rfl (q0 := 0) rfl [0, 1, 2, 3, 4, 5, 6, 7, 8, 9, 10, 11, 12] rfl rfl rfl (Nat.le_of_ble_eq_true rfl) ⟨Nat.le_of_ble_eq_true rfl, Nat.le_of_ble_eq_true rfl⟩ dX1_hasWrongRest_43 (fun v hv => ?_)
            subst hv
            refine g_eq (st' := [iv (if h_pl c = a_lo c * h_pb then 1 else 0)]) rfl rfl rfl ?_
            refine g_ifb_ne F (tgt := 51) dX1_hasWrongRest_46 (by decide) (fun c_4 => ?_) (fun c_4 => ?_)
            · skip
              refine g_iinc F 3 rfl ([(2, iv ((((c : Nat) : Int)) + 1)), (3, jv (leftZ a_co a_ct a_sa h_pr h_qb c a_nr)), (0, .ref (h 0)), (1, .ref (a 0))]) rfl (by decide) dX1_hasWrongRest_51 ?_
              refine g_goto F (tgt := 2) dX1_hasWrongRest_54 (by decide) ?_
              refine g_lsub ([(0, .ref (h 0)), (1, .ref (a 0)), (2, iv ((((c : Nat) : Int)) + 1))]) [2, 3, 0] rfl ?_
              exact ih2 (c + 1) (by omega) (fun j w => by rcases (show j < c ∨ j = c by omega) with q | q; exact hj j q; subst q; unfold wrB; simp only [decide_eq_false_iff_not]; first | omega | (rintro (⟨q1, q2⟩ | ⟨q1, q2⟩) <;> first | omega | exact absurd (by assumption) q2)) (by omega)
            · skip
              refine g_iconst F dX1_hasWrongRest_49 ?_
              exact g_zretR F rfl (nar_01 (Or.inr rfl)) (congrArg (fun z => some (iv z)) (show (1 : Int) = if 0 ≤ firstZ (wrB a_lo a_hi a_co a_ct a_sa h_pr h_pl h_qb h_pb a_nr) a_nc then 1 else 0 by rw [firstZ_at (f := wrB a_lo a_hi a_co a_ct a_sa h_pr h_pl h_qb h_pb a_nr) (i := c) hj (by unfold wrB; simp only [decide_eq_true_eq]; exact Or.inr ⟨by omega, by assumption⟩) (by omega)]; rw [if_pos (by omega)])) dX1_hasWrongRest_50
        · skip
          refine g_aload_n F 1 rfl rfl dX1_hasWrongRest_23 ?_
          refine g_aload_n F 2 rfl rfl dX1_hasWrongRest_24 ?_
          refine g_iload_n F 3 rfl rfl dX1_hasWrongRest_25 ?_
          refine g_callRV F hV (As := [.ref (a 0), iv (((c : Nat) : Int))]) (rest := []) (kX1_isAtGreatestOf l D cA h h_pl h_pr h_pb h_qb a a_kd a_lo a_hi a_co a_pa a_rk a_nu a_ct a_sa a_nc a_nr c (by omega) (hpl) (hpb) (qhi)) (cwV 2 F.2.2.2.2.1 gX1_hasWrongRest_X1_isAtGreatestOf rfl rfl rfl (by decide +kernel) ⟨Nat.le_of_ble_eq_true rfl, Nat.le_of_ble_eq_true rfl⟩) rfl rfl (q0 := 0) rfl [0, 1, 2, 3, 4, 5, 6, 7, 8, 9, 10, 11, 12] rfl rfl rfl (Nat.le_of_ble_eq_true rfl) ⟨Nat.le_of_ble_eq_true rfl, Nat.le_of_ble_eq_true rfl⟩ dX1_hasWrongRest_26 (fun v hv => ?_)
          subst hv
          refine g_eq (st' := [iv (if ¬ a_hi c = -2000000005 ∧ h_pl c = a_hi c * h_pb then 1 else 0)]) rfl rfl rfl ?_
          refine g_ifb_ne F (tgt := 34) dX1_hasWrongRest_29 (by decide) (fun c_5 => ?_) (fun c_5 => ?_)
          · skip
            refine g_lload_n F 0 rfl rfl dX1_hasWrongRest_34 ?_
            refine g_lconst F (z := 0) dX1_hasWrongRest_35 (by decide) ?_
            refine g_lcmp_le F (tgt := 51) dX1_hasWrongRest_36 dX1_hasWrongRest_37 (by decide) (leftZ_in qnr qco qsa hpr hqb) ⟨by decide, by decide⟩ (fun c_6 => ?_) (fun c_6 => ?_)
            · skip
              refine g_iinc F 3 rfl ([(2, iv ((((c : Nat) : Int)) + 1)), (3, jv (leftZ a_co a_ct a_sa h_pr h_qb c a_nr)), (0, .ref (h 0)), (1, .ref (a 0))]) rfl (by decide) dX1_hasWrongRest_51 ?_
              refine g_goto F (tgt := 2) dX1_hasWrongRest_54 (by decide) ?_
              refine g_lsub ([(0, .ref (h 0)), (1, .ref (a 0)), (2, iv ((((c : Nat) : Int)) + 1))]) [2, 3, 0] rfl ?_
              exact ih2 (c + 1) (by omega) (fun j w => by rcases (show j < c ∨ j = c by omega) with q | q; exact hj j q; subst q; unfold wrB; simp only [decide_eq_false_iff_not]; first | omega | (rintro (⟨q1, q2⟩ | ⟨q1, q2⟩) <;> first | omega | exact absurd (by assumption) q2)) (by omega)
            · skip
              refine g_aload_n F 1 rfl rfl dX1_hasWrongRest_40 ?_
              refine g_aload_n F 2 rfl rfl dX1_hasWrongRest_41 ?_
              refine g_iload_n F 3 rfl rfl dX1_hasWrongRest_42 ?_
              refine g_callRV F hV (As := [.ref (a 0), iv (((c : Nat) : Int))]) (rest := []) (kX1_isAtLeastOf l D cA h h_pl h_pr h_pb h_qb a a_kd a_lo a_hi a_co a_pa a_rk a_nu a_ct a_sa a_nc a_nr c (by omega) (hpl) (hpb) (qlo)) (cwV 2 F.2.2.2.2.1 gX1_hasWrongRest_X1_isAtLeastOf rfl rfl rfl (by decide +kernel) ⟨Nat.le_of_ble_eq_true rfl, Nat.le_of_ble_eq_true rfl⟩) rfl rfl (q0 := 0) rfl [0, 1, 2, 3, 4, 5, 6, 7, 8, 9, 10, 11, 12] rfl rfl rfl (Nat.le_of_ble_eq_true rfl) ⟨Nat.le_of_ble_eq_true rfl, Nat.le_of_ble_eq_true rfl⟩ dX1_hasWrongRest_43 (fun v hv => ?_)
              subst hv
              refine g_eq (st' := [iv (if h_pl c = a_lo c * h_pb then 1 else 0)]) rfl rfl rfl ?_
              refine g_ifb_ne F (tgt := 51) dX1_hasWrongRest_46 (by decide) (fun c_7 => ?_) (fun c_7 => ?_)
              · skip
                refine g_iinc F 3 rfl ([(2, iv ((((c : Nat) : Int)) + 1)), (3, jv (leftZ a_co a_ct a_sa h_pr h_qb c a_nr)), (0, .ref (h 0)), (1, .ref (a 0))]) rfl (by decide) dX1_hasWrongRest_51 ?_
                refine g_goto F (tgt := 2) dX1_hasWrongRest_54 (by decide) ?_
                refine g_lsub ([(0, .ref (h 0)), (1, .ref (a 0)), (2, iv ((((c : Nat) : Int)) + 1))]) [2, 3, 0] rfl ?_
                exact ih2 (c + 1) (by omega) (fun j w => by rcases (show j < c ∨ j = c by omega) with q | q; exact hj j q; subst q; unfold wrB; simp only [decide_eq_false_iff_not]; first | omega | (rintro (⟨q1, q2⟩ | ⟨q1, q2⟩) <;> first | omega | exact absurd (by assumption) q2)) (by omega)
              · skip
                refine g_iconst F dX1_hasWrongRest_49 ?_
                exact g_zretR F rfl (nar_01 (Or.inr rfl)) (congrArg (fun z => some (iv z)) (show (1 : Int) = if 0 ≤ firstZ (wrB a_lo a_hi a_co a_ct a_sa h_pr h_pl h_qb h_pb a_nr) a_nc then 1 else 0 by rw [firstZ_at (f := wrB a_lo a_hi a_co a_ct a_sa h_pr h_pl h_qb h_pb a_nr) (i := c) hj (by unfold wrB; simp only [decide_eq_true_eq]; exact Or.inr ⟨by omega, by assumption⟩) (by omega)]; rw [if_pos (by omega)])) dX1_hasWrongRest_50
          · skip
            refine g_iconst F dX1_hasWrongRest_32 ?_
            exact g_zretR F rfl (nar_01 (Or.inr rfl)) (congrArg (fun z => some (iv z)) (show (1 : Int) = if 0 ≤ firstZ (wrB a_lo a_hi a_co a_ct a_sa h_pr h_pl h_qb h_pb a_nr) a_nc then 1 else 0 by rw [firstZ_at (f := wrB a_lo a_hi a_co a_ct a_sa h_pr h_pl h_qb h_pb a_nr) (i := c) hj (by unfold wrB; simp only [decide_eq_true_eq]; exact Or.inl ⟨by omega, by assumption⟩) (by omega)]; rw [if_pos (by omega)])) dX1_hasWrongRest_33
  refine g_lsub ([(0, .ref (h 0)), (1, .ref (a 0)), (2, iv (0))]) [1, 2, 0] rfl ?_
  exact lp2 (_ + 1) 0 (by omega) (fun j w => absurd w (Nat.not_lt_zero j)) (Nat.lt_succ_self _)

set_option maxHeartbeats 4000000 in
set_option maxRecDepth 100000 in
theorem kX1_hasIdlePrice (l : Launch) (D : va_G) (cA : Nat → ClassId) (h : Nat → Nat) (h_pl : Nat → Int) (h_pr : Nat → Int) (h_pb : Int) (h_qb : Int) (a : Nat → Nat) (a_kd : Nat → Int) (a_lo : Nat → Int) (a_hi : Nat → Int) (a_co : Nat → Int) (a_pa : Nat → Int) (a_rk : Nat → Int) (a_nu : Nat → Int) (a_ct : Nat → Int) (a_sa : Nat → Int) (a_nc : Nat) (a_nr : Nat) (qnc : a_nc ≤ 5) (qnr : a_nr ≤ 7) (hpl : ∀ j, -200000000000 ≤ h_pl j ∧ h_pl j ≤ 200000000000) (hpb : 0 < h_pb ∧ h_pb ≤ 8000000) (hpr : ∀ j, -1000000 ≤ h_pr j ∧ h_pr j ≤ 1000000) (qsa : ∀ j, -9 ≤ a_sa j ∧ a_sa j ≤ 9) (qnu : ∀ j, -198 ≤ a_nu j ∧ a_nu j ≤ 198) (qct : ∀ j, 0 ≤ a_ct j ∧ a_ct j ≤ 1) : CR l yX1_hasIdlePrice wsX1_hasIdlePrice ({ frames := 2, cells := 0, slots := 0, locals := 47 }) D cA [.ref (h 0), .ref (a 0)] (wH cA h (h_pl) (h_pr) (h_pb) (h_qb) ++ wP cA a (a_kd) (a_lo) (a_hi) (a_co) (a_pa) (a_rk) (a_nu) (a_ct) (a_sa) (((a_nc : Nat) : Int)) (((a_nr : Nat) : Int))) (fun ov => ov = some (iv (if 0 ≤ firstZ (idB a_nu a_ct a_sa h_pr h_pl h_pb a_nc) a_nr then 1 else 0))) := by
  refine CR.mk (cc := cX1_hasIdlePrice) (maxL := 4) (ret := (some .boolean)) (by decide +kernel) rfl (Nat.le_of_ble_eq_true rfl) ?_
  intro p_ e_ s_ m_ b_ me_ c_ F
  have hV := @IR_P D s_
  have iX1 : ∀ w ∈ u_ws RX1 TX1 4, w ∈ wsX1_hasIdlePrice := by decide +kernel
  have iX2 : ∀ w ∈ u_ws RX2 TX2 11, w ∈ wsX1_hasIdlePrice := by decide +kernel
  refine g_lsub ([(0, .ref (h 0)), (1, .ref (a 0))]) [0, 1] rfl ?_
  refine g_iconst F dX1_hasIdlePrice_0 ?_
  refine g_istore_n F ([(2, iv (0)), (0, .ref (h 0)), (1, .ref (a 0))]) rfl rfl (by decide) dX1_hasIdlePrice_1 ?_
  have lp2 : ∀ (n : Nat) (r : Nat) (hr : r ≤ a_nr) (hj : ∀ j, j < r → (idB a_nu a_ct a_sa h_pr h_pl h_pb a_nc) j = false), a_nr - r < n → GW p_ l e_ (headSpec wsX1_hasIdlePrice ({ frames := 2, cells := 0, slots := 0, locals := 47 })).room s_ m_ ([.ref (h 0), .ref (a 0)]).toArray b_ me_ c_ (MQ b_ (Qr (fun ov => ov = some (iv (if 0 ≤ firstZ (idB a_nu a_ct a_sa h_pr h_pl h_pb a_nc) a_nr then 1 else 0)))) ([.ref (h 0), .ref (a 0)]).toArray s_ 0 0 (fun _ => False)) (IR D s_) 4 0 0 (wH cA h (h_pl) (h_pr) (h_pb) (h_qb) ++ wP cA a (a_kd) (a_lo) (a_hi) (a_co) (a_pa) (a_rk) (a_nu) (a_ct) (a_sa) (((a_nc : Nat) : Int)) (((a_nr : Nat) : Int))) ([(0, .ref (h 0)), (1, .ref (a 0)), (2, iv (((r : Nat) : Int)))]) [] 2 := by
    intro n; induction n with
    | zero => intro r; intros; omega
    | succ n ih2 =>
      intro r hr hj hmu2
      refine g_iload_n F 2 rfl rfl dX1_hasIdlePrice_2 ?_
      refine g_aload_n F 1 rfl rfl dX1_hasIdlePrice_3 ?_
      refine g_get F hV iX2 3 rfl rfl 10 (by decide) (List.mem_of_getElem? (i := 1) rfl) rfl dX1_hasIdlePrice_4 ?_
      refine g_icmp_ge F (tgt := 72) dX1_hasIdlePrice_7 (by decide) ⟨by omega, by omega⟩ ⟨by omega, by omega⟩ (fun c_1 => ?_) (fun c_1 => ?_)
      · skip
        refine g_iconst F dX1_hasIdlePrice_72 ?_
        exact g_zretR F rfl (nar_01 (Or.inl rfl)) (congrArg (fun z => some (iv z)) (show (0 : Int) = if 0 ≤ firstZ (idB a_nu a_ct a_sa h_pr h_pl h_pb a_nc) a_nr then 1 else 0 by rw [firstZ_none (f := idB a_nu a_ct a_sa h_pr h_pl h_pb a_nc) (fun j w => hj j (by omega)), if_neg (by decide)])) dX1_hasIdlePrice_73
      · skip
        refine g_aload_n F 1 rfl rfl dX1_hasIdlePrice_10 ?_
        refine g_iload_n F 2 rfl rfl dX1_hasIdlePrice_11 ?_
        refine g_aload_n F 0 rfl rfl dX1_hasIdlePrice_12 ?_
        refine g_get F hV iX1 0 rfl rfl 0 (by decide) (List.mem_of_getElem? (i := 2) rfl) rfl dX1_hasIdlePrice_13 ?_
        refine g_callRV F hV (As := [iv (((r : Nat) : Int)), .ref (h 1)]) (rest := []) (kX2_sumIn l D cA a a_kd a_lo a_hi a_co a_pa a_rk a_nu a_ct a_sa a_nc a_nr (fun _ => h 1) h_pl r (by omega) (qnc) (qsa)) (cwV 2 F.2.2.2.2.1 gX1_hasIdlePrice_X2_sumIn rfl rfl rfl (by decide +kernel) ⟨Nat.le_of_ble_eq_true rfl, Nat.le_of_ble_eq_true rfl⟩) rfl rfl (q0 := 0) rfl [3, 4, 5, 6, 7, 8, 9, 10, 11, 12, 1] rfl rfl rfl (Nat.le_of_ble_eq_true rfl) ⟨Nat.le_of_ble_eq_true rfl, Nat.le_of_ble_eq_true rfl⟩ dX1_hasIdlePrice_16 (fun v hv => ?_)
        subst hv
        refine g_eq (st' := [jv (sumZ (fun j => a_sa (r * 5 + j) * h_pl j) a_nc)]) rfl rfl rfl ?_
        refine g_aload_n F 1 rfl rfl dX1_hasIdlePrice_19 ?_
        refine g_get F hV iX2 3 rfl rfl 6 (by decide) (List.mem_of_getElem? (i := 3) rfl) rfl dX1_hasIdlePrice_20 ?_
        refine g_iload_n F 2 rfl rfl dX1_hasIdlePrice_23 ?_
        have r_2 := qnu (r)
        refine g_iald F hV 10 rfl (r) (by omega) (by omega) (by decide) dX1_hasIdlePrice_24 ?_
        refine g_i2l F ⟨by omega, by omega⟩ dX1_hasIdlePrice_25 ?_
        refine g_aload_n F 0 rfl rfl dX1_hasIdlePrice_26 ?_
        refine g_get F hV iX1 0 rfl rfl 2 (by decide) (List.mem_of_getElem? (i := 4) rfl) rfl dX1_hasIdlePrice_27 ?_
        refine g_lmul F dX1_hasIdlePrice_30 ?_
        refine g_lcmp_ne F (tgt := 39) dX1_hasIdlePrice_31 dX1_hasIdlePrice_32 (by decide) (show I64 _ from sum_in qnc (fun j => by have h1 := qsa (r * 5 + j); have h2 := hpl j; exact Nat.le_trans (mul_nat (a := 9) (b := 200000000000) (by omega) (by omega)) (by decide))) (show I64 _ from mul_in (a := 198) (b := 8000000) (by omega) (by omega) (by decide)) (fun c_3 => ?_) (fun c_3 => ?_)
        · skip
          refine g_iconst F dX1_hasIdlePrice_39 ?_
          refine g_istore_n F ([(3, iv (0)), (0, .ref (h 0)), (1, .ref (a 0)), (2, iv (((r : Nat) : Int)))]) rfl rfl (by decide) dX1_hasIdlePrice_40 ?_
          refine g_aload_n F 2 rfl rfl dX1_hasIdlePrice_41 ?_
          refine g_get F hV iX2 3 rfl rfl 7 (by decide) (List.mem_of_getElem? (i := 5) rfl) rfl dX1_hasIdlePrice_42 ?_
          refine g_iload_n F 3 rfl rfl dX1_hasIdlePrice_45 ?_
          have r_4 := qct (r)
          refine g_iald F hV 11 rfl (r) (by omega) (by omega) (by decide) dX1_hasIdlePrice_46 ?_
          refine g_iconst F dX1_hasIdlePrice_47 ?_
          refine g_icmp_ne F (tgt := 66) dX1_hasIdlePrice_48 (by decide) ⟨by omega, by omega⟩ ⟨by decide, by decide⟩ (fun c_5 => ?_) (fun c_5 => ?_)
          · skip
            refine g_iinc F 3 rfl ([(2, iv ((((r : Nat) : Int)) + 1)), (3, iv (0)), (0, .ref (h 0)), (1, .ref (a 0))]) rfl (by decide) dX1_hasIdlePrice_66 ?_
            refine g_goto F (tgt := 2) dX1_hasIdlePrice_69 (by decide) ?_
            refine g_lsub ([(0, .ref (h 0)), (1, .ref (a 0)), (2, iv ((((r : Nat) : Int)) + 1))]) [2, 3, 0] rfl ?_
            exact ih2 (r + 1) (by omega) (fun j w => by rcases (show j < r ∨ j = r by omega) with q | q; exact hj j q; subst q; unfold idB; simp only [decide_eq_false_iff_not]; rintro ⟨q1, q2, q3⟩; unfold sumP at q3; omega) (by omega)
          · skip
            refine g_aload_n F 1 rfl rfl dX1_hasIdlePrice_51 ?_
            refine g_get F hV iX1 0 rfl rfl 1 (by decide) (List.mem_of_getElem? (i := 6) rfl) rfl dX1_hasIdlePrice_52 ?_
            refine g_iload_n F 3 rfl rfl dX1_hasIdlePrice_55 ?_
            have r_6 := hpr (r)
            refine g_iald F hV 2 rfl (r) (by omega) (by omega) (by decide) dX1_hasIdlePrice_56 ?_
            refine g_if_eq F (tgt := 66) dX1_hasIdlePrice_57 (by decide) ⟨by omega, by omega⟩ (fun c_7 => ?_) (fun c_7 => ?_)
            · skip
              refine g_iinc F 3 rfl ([(2, iv ((((r : Nat) : Int)) + 1)), (3, iv (0)), (0, .ref (h 0)), (1, .ref (a 0))]) rfl (by decide) dX1_hasIdlePrice_66 ?_
              refine g_goto F (tgt := 2) dX1_hasIdlePrice_69 (by decide) ?_
              refine g_lsub ([(0, .ref (h 0)), (1, .ref (a 0)), (2, iv ((((r : Nat) : Int)) + 1))]) [2, 3, 0] rfl ?_
              exact ih2 (r + 1) (by omega) (fun j w => by rcases (show j < r ∨ j = r by omega) with q | q; exact hj j q; subst q; unfold idB; simp only [decide_eq_false_iff_not]; rintro ⟨q1, q2, q3⟩; unfold sumP at q3; omega) (by omega)
            · skip
              refine g_iload_n F 0 rfl rfl dX1_hasIdlePrice_60 ?_
              refine g_if_ne F (tgt := 66) dX1_hasIdlePrice_61 (by decide) ⟨by decide, by decide⟩ (fun c_8 => ?_) (fun c_8 => ?_)
              · skip
                exfalso; omega
              · skip
                refine g_iconst F dX1_hasIdlePrice_64 ?_
                exact g_zretR F rfl (nar_01 (Or.inr rfl)) (congrArg (fun z => some (iv z)) (show (1 : Int) = if 0 ≤ firstZ (idB a_nu a_ct a_sa h_pr h_pl h_pb a_nc) a_nr then 1 else 0 by rw [firstZ_at (f := idB a_nu a_ct a_sa h_pr h_pl h_pb a_nc) (i := r) hj (by unfold idB; simp only [decide_eq_true_eq]; exact ⟨by omega, by omega, by unfold sumP; omega⟩) (by omega)]; rw [if_pos (by omega)])) dX1_hasIdlePrice_65
        · skip
          refine g_iconst F dX1_hasIdlePrice_35 ?_
          refine g_goto F (tgt := 40) dX1_hasIdlePrice_36 (by decide) ?_
          refine g_istore_n F ([(3, iv (1)), (0, .ref (h 0)), (1, .ref (a 0)), (2, iv (((r : Nat) : Int)))]) rfl rfl (by decide) dX1_hasIdlePrice_40 ?_
          refine g_aload_n F 2 rfl rfl dX1_hasIdlePrice_41 ?_
          refine g_get F hV iX2 3 rfl rfl 7 (by decide) (List.mem_of_getElem? (i := 5) rfl) rfl dX1_hasIdlePrice_42 ?_
          refine g_iload_n F 3 rfl rfl dX1_hasIdlePrice_45 ?_
          have r_9 := qct (r)
          refine g_iald F hV 11 rfl (r) (by omega) (by omega) (by decide) dX1_hasIdlePrice_46 ?_
          refine g_iconst F dX1_hasIdlePrice_47 ?_
          refine g_icmp_ne F (tgt := 66) dX1_hasIdlePrice_48 (by decide) ⟨by omega, by omega⟩ ⟨by decide, by decide⟩ (fun c_10 => ?_) (fun c_10 => ?_)
          · skip
            refine g_iinc F 3 rfl ([(2, iv ((((r : Nat) : Int)) + 1)), (3, iv (1)), (0, .ref (h 0)), (1, .ref (a 0))]) rfl (by decide) dX1_hasIdlePrice_66 ?_
            refine g_goto F (tgt := 2) dX1_hasIdlePrice_69 (by decide) ?_
            refine g_lsub ([(0, .ref (h 0)), (1, .ref (a 0)), (2, iv ((((r : Nat) : Int)) + 1))]) [2, 3, 0] rfl ?_
            exact ih2 (r + 1) (by omega) (fun j w => by rcases (show j < r ∨ j = r by omega) with q | q; exact hj j q; subst q; unfold idB; simp only [decide_eq_false_iff_not]; rintro ⟨q1, q2, q3⟩; unfold sumP at q3; omega) (by omega)
          · skip
            refine g_aload_n F 1 rfl rfl dX1_hasIdlePrice_51 ?_
            refine g_get F hV iX1 0 rfl rfl 1 (by decide) (List.mem_of_getElem? (i := 6) rfl) rfl dX1_hasIdlePrice_52 ?_
            refine g_iload_n F 3 rfl rfl dX1_hasIdlePrice_55 ?_
            have r_11 := hpr (r)
            refine g_iald F hV 2 rfl (r) (by omega) (by omega) (by decide) dX1_hasIdlePrice_56 ?_
            refine g_if_eq F (tgt := 66) dX1_hasIdlePrice_57 (by decide) ⟨by omega, by omega⟩ (fun c_12 => ?_) (fun c_12 => ?_)
            · skip
              refine g_iinc F 3 rfl ([(2, iv ((((r : Nat) : Int)) + 1)), (3, iv (1)), (0, .ref (h 0)), (1, .ref (a 0))]) rfl (by decide) dX1_hasIdlePrice_66 ?_
              refine g_goto F (tgt := 2) dX1_hasIdlePrice_69 (by decide) ?_
              refine g_lsub ([(0, .ref (h 0)), (1, .ref (a 0)), (2, iv ((((r : Nat) : Int)) + 1))]) [2, 3, 0] rfl ?_
              exact ih2 (r + 1) (by omega) (fun j w => by rcases (show j < r ∨ j = r by omega) with q | q; exact hj j q; subst q; unfold idB; simp only [decide_eq_false_iff_not]; rintro ⟨q1, q2, q3⟩; unfold sumP at q3; omega) (by omega)
            · skip
              refine g_iload_n F 0 rfl rfl dX1_hasIdlePrice_60 ?_
              refine g_if_ne F (tgt := 66) dX1_hasIdlePrice_61 (by decide) ⟨by decide, by decide⟩ (fun c_13 => ?_) (fun c_13 => ?_)
              · skip
                refine g_iinc F 3 rfl ([(2, iv ((((r : Nat) : Int)) + 1)), (3, iv (1)), (0, .ref (h 0)), (1, .ref (a 0))]) rfl (by decide) dX1_hasIdlePrice_66 ?_
                refine g_goto F (tgt := 2) dX1_hasIdlePrice_69 (by decide) ?_
                refine g_lsub ([(0, .ref (h 0)), (1, .ref (a 0)), (2, iv ((((r : Nat) : Int)) + 1))]) [2, 3, 0] rfl ?_
                exact ih2 (r + 1) (by omega) (fun j w => by rcases (show j < r ∨ j = r by omega) with q | q; exact hj j q; subst q; unfold idB; simp only [decide_eq_false_iff_not]; rintro ⟨q1, q2, q3⟩; unfold sumP at q3; omega) (by omega)
              · skip
                exfalso; omega
  refine g_lsub ([(0, .ref (h 0)), (1, .ref (a 0)), (2, iv (0))]) [1, 2, 0] rfl ?_
  exact lp2 (_ + 1) 0 (by omega) (fun j w => absurd w (Nat.not_lt_zero j)) (Nat.lt_succ_self _)

set_option maxHeartbeats 4000000 in
set_option maxRecDepth 100000 in
theorem kX1_grasp (l : Launch) (D : va_G) (cA : Nat → ClassId) (h : Nat → Nat) (h_pl : Nat → Int) (h_pr : Nat → Int) (h_pb : Int) (h_qb : Int) (b : Nat → Nat) (b_va : Nat → Int) (b_cost : Int) (b_bel : Int) (b_out : Int) (hbb : 0 < b_bel ∧ b_bel ≤ 8000000) (hbv : ∀ j, -200000000000 ≤ b_va j ∧ b_va j ≤ 200000000000) : CT l yX1_grasp wsX1_grasp ({ frames := 2, cells := 0, slots := 0, locals := 54 }) D cA [.ref (h 0), .ref (b 0)] (wH cA h (h_pl) (h_pr) (h_pb) (h_qb) ++ wB cA b (b_va) (b_cost) (b_bel) (b_out)) (fun ov ow => ov = none ∧ ow = wH cA h (grV b_va b_bel) h_pr (Int.tdiv b_bel (gbZ b_va b_bel 5 : Nat)) h_qb ++ wB cA b b_va b_cost b_bel b_out) 0 0 := by
  refine CT.mk (cc := cX1_grasp) (maxL := 5) (ret := none) (by decide +kernel) rfl (Nat.le_of_ble_eq_true rfl) ?_
  intro p_ e_ s_ m_ b_ me_ c_ A F hnm hA
  have hV := @IM_P D s_ A
  have iX0 : ∀ w ∈ u_ws RX0 TX0 4, w ∈ wsX1_grasp := by decide +kernel
  have iX1 : ∀ w ∈ u_ws RX1 TX1 4, w ∈ wsX1_grasp := by decide +kernel
  have hgp := gbZ_pos (va := b_va) hbb.1
  refine g_lsub ([(0, .ref (h 0)), (1, .ref (b 0))]) [0, 1] rfl ?_
  refine g_aload_n F 1 rfl rfl dX1_grasp_0 ?_
  refine g_get F hV iX0 3 rfl rfl 2 (by decide) (List.mem_of_getElem? (i := 1) rfl) rfl dX1_grasp_1 ?_
  refine g_eq (st' := [jv (((b_bel.natAbs : Nat) : Int))]) rfl rfl (congrArg (fun zz => [jv zz]) (show (b_bel : Int) = ((b_bel.natAbs : Nat) : Int) from (by omega))) ?_
  refine g_lstore_n F ([(2, jv (((b_bel.natAbs : Nat) : Int))), (0, .ref (h 0)), (1, .ref (b 0))]) rfl rfl (by decide) dX1_grasp_4 ?_
  refine g_iconst F dX1_grasp_5 ?_
  refine g_istore F ([(4, iv (0)), (2, jv (((b_bel.natAbs : Nat) : Int))), (0, .ref (h 0)), (1, .ref (b 0))]) rfl (by decide) dX1_grasp_6 ?_
  have lp8 : ∀ (n : Nat) (c : Nat) (g : Nat) (hc : c ≤ 5) (hg : g = gbZ b_va b_bel c), 5 - c < n → GW p_ l e_ (headSpec wsX1_grasp ({ frames := 2, cells := 0, slots := 0, locals := 54 })).room s_ m_ ([.ref (h 0), .ref (b 0)]).toArray b_ me_ c_ (MQ b_ (Qm D (fun ov ow => ov = none ∧ ow = wH cA h (grV b_va b_bel) h_pr (Int.tdiv b_bel (gbZ b_va b_bel 5 : Nat)) h_qb ++ wB cA b b_va b_cost b_bel b_out) A) ([.ref (h 0), .ref (b 0)]).toArray s_ 0 0 A) (IM D s_ A) 5 0 0 (wH cA h (h_pl) (h_pr) (h_pb) (h_qb) ++ wB cA b (b_va) (b_cost) (b_bel) (b_out)) ([(0, .ref (h 0)), (1, .ref (b 0)), (2, jv (((g : Nat) : Int))), (4, iv (((c : Nat) : Int)))]) [] 8 := by
    intro n; induction n with
    | zero => intro c g; intros; omega
    | succ n ih8 =>
      intro c g hc hg hmu8
      have hgc := hgp c
      refine g_iload F 3 rfl dX1_grasp_8 ?_
      refine g_iconst F dX1_grasp_10 ?_
      refine g_icmp_ge F (tgt := 32) dX1_grasp_11 (by decide) ⟨by omega, by omega⟩ ⟨by decide, by decide⟩ (fun c_1 => ?_) (fun c_1 => ?_)
      · skip
        refine g_lload_n F 2 rfl rfl dX1_grasp_32 ?_
        refine g_lconst F (z := 0) dX1_grasp_33 (by decide) ?_
        refine g_lcmp_ne F (tgt := 39) dX1_grasp_34 dX1_grasp_35 (by decide) ⟨by omega, by omega⟩ ⟨by decide, by decide⟩ (fun c_2 => ?_) (fun c_2 => ?_)
        · skip
          refine g_iconst F dX1_grasp_39 ?_
          refine g_istore F ([(4, iv (0)), (0, .ref (h 0)), (1, .ref (b 0)), (2, jv (((g : Nat) : Int)))]) rfl (by decide) dX1_grasp_40 ?_
          have lp42 : ∀ (n : Nat) (d : Nat) (px : Nat → Int) (hd : d ≤ 5) (hpx : px = mixZ (grV b_va b_bel) h_pl d), 5 - d < n → GW p_ l e_ (headSpec wsX1_grasp ({ frames := 2, cells := 0, slots := 0, locals := 54 })).room s_ m_ ([.ref (h 0), .ref (b 0)]).toArray b_ me_ c_ (MQ b_ (Qm D (fun ov ow => ov = none ∧ ow = wH cA h (grV b_va b_bel) h_pr (Int.tdiv b_bel (gbZ b_va b_bel 5 : Nat)) h_qb ++ wB cA b b_va b_cost b_bel b_out) A) ([.ref (h 0), .ref (b 0)]).toArray s_ 0 0 A) (IM D s_ A) 5 0 0 (wH cA h (px) (h_pr) (h_pb) (h_qb) ++ wB cA b (b_va) (b_cost) (b_bel) (b_out)) ([(0, .ref (h 0)), (1, .ref (b 0)), (2, jv (((g : Nat) : Int))), (4, iv (((d : Nat) : Int)))]) [] 42 := by
            intro n; induction n with
            | zero => intro d px; intros; omega
            | succ n ih42 =>
              intro d px hd hpx hmu42
              subst hpx
              refine g_iload F 3 rfl dX1_grasp_42 ?_
              refine g_iconst F dX1_grasp_44 ?_
              refine g_icmp_ge F (tgt := 70) dX1_grasp_45 (by decide) ⟨by omega, by omega⟩ ⟨by decide, by decide⟩ (fun c_3 => ?_) (fun c_3 => ?_)
              · skip
                refine g_acongJ 1 (grV b_va b_bel) rfl (fun j hj => mix_lt (by omega)) (wH cA h (grV b_va b_bel) (h_pr) (h_pb) (h_qb) ++ wB cA b (b_va) (b_cost) (b_bel) (b_out)) rfl ?_
                refine g_aload_n F 0 rfl rfl dX1_grasp_70 ?_
                refine g_aload_n F 1 rfl rfl dX1_grasp_71 ?_
                refine g_get F hV iX0 3 rfl rfl 2 (by decide) (List.mem_of_getElem? (i := 1) rfl) rfl dX1_grasp_72 ?_
                refine g_lload_n F 2 rfl rfl dX1_grasp_75 ?_
                refine g_ldiv F ⟨by omega, by omega⟩ ⟨by omega, by omega⟩ (by omega) (tdiv_64 ⟨by omega, by omega⟩ (by omega) (by omega)) dX1_grasp_76 ?_
                refine g_put F iX1 tyX1 tyX1_ok nmX1 0 rfl rfl 2 (by decide) (List.mem_of_getElem? (i := 4) rfl) rfl rfl rfl (Nat.le_of_ble_eq_true rfl) (wH cA h (grV b_va b_bel) (h_pr) (Int.tdiv b_bel (((g : Nat) : Int))) (h_qb) ++ wB cA b (b_va) (b_cost) (b_bel) (b_out)) rfl dX1_grasp_77 ?_
                exact g_vret F rfl (by decide) (by decide) ⟨rfl, (by have hc5 : c = 5 := (by omega); subst hc5; subst hg; rfl)⟩ dX1_grasp_80
              · skip
                refine g_aload_n F 0 rfl rfl dX1_grasp_48 ?_
                refine g_get F hV iX1 0 rfl rfl 0 (by decide) (List.mem_of_getElem? (i := 3) rfl) rfl dX1_grasp_49 ?_
                refine g_iload F 3 rfl dX1_grasp_52 ?_
                refine g_aload_n F 1 rfl rfl dX1_grasp_54 ?_
                refine g_get F hV iX0 3 rfl rfl 0 (by decide) (List.mem_of_getElem? (i := 2) rfl) rfl dX1_grasp_55 ?_
                refine g_iload F 3 rfl dX1_grasp_58 ?_
                have r_4 := hbv (d)
                refine g_lald F hV 4 rfl (d) (by omega) (by omega) (by decide) dX1_grasp_60 ?_
                refine g_lload_n F 2 rfl rfl dX1_grasp_61 ?_
                refine g_ldiv F ⟨by omega, by omega⟩ ⟨by omega, by omega⟩ (by omega) (tdiv_64 ⟨by omega, by omega⟩ (by omega) (by omega)) dX1_grasp_62 ?_
                refine g_last F 1 rfl (d) (by omega) (by omega) (by decide) (wH cA h (va_up (mixZ (grV b_va b_bel) h_pl d) d (Int.tdiv (b_va d) (((g : Nat) : Int)))) (h_pr) (h_pb) (h_qb) ++ wB cA b (b_va) (b_cost) (b_bel) (b_out)) rfl dX1_grasp_63 ?_
                refine g_iinc F 3 rfl ([(4, iv ((((d : Nat) : Int)) + 1)), (0, .ref (h 0)), (1, .ref (b 0)), (2, jv (((g : Nat) : Int)))]) rfl (by decide) dX1_grasp_64 ?_
                refine g_goto F (tgt := 42) dX1_grasp_67 (by decide) ?_
                refine g_lsub ([(0, .ref (h 0)), (1, .ref (b 0)), (2, jv (((g : Nat) : Int))), (4, iv ((((d : Nat) : Int)) + 1))]) [1, 2, 3, 0] rfl ?_
                exact ih42 (d + 1) (va_up (mixZ (grV b_va b_bel) h_pl d) d (Int.tdiv (b_va d) (((g : Nat) : Int)))) (by omega) (mix_up (by unfold grV; rw [hg, show c = 5 by omega])) (by omega)
          refine g_lsub ([(0, .ref (h 0)), (1, .ref (b 0)), (2, jv (((g : Nat) : Int))), (4, iv (0))]) [1, 2, 3, 0] rfl ?_
          exact lp42 (_ + 1) 0 h_pl (by omega) (mix_0 _ _).symm (Nat.lt_succ_self _)
        · skip
          exact absurd c_2 (by omega)
      · skip
        refine g_lload_n F 2 rfl rfl dX1_grasp_14 ?_
        refine g_aload_n F 1 rfl rfl dX1_grasp_15 ?_
        refine g_get F hV iX0 3 rfl rfl 0 (by decide) (List.mem_of_getElem? (i := 2) rfl) rfl dX1_grasp_16 ?_
        refine g_iload F 3 rfl dX1_grasp_19 ?_
        have r_5 := hbv (c)
        refine g_lald F hV 4 rfl (c) (by omega) (by omega) (by decide) dX1_grasp_21 ?_
        refine g_callRSN F hV (As := [jv (((g : Nat) : Int)), jv (b_va c)]) (rest := []) (kX6_commonDivisor l D cA (((g : Nat) : Int)) (b_va c) (by omega) (by omega)) ⟨va_cnB 2 F.2.2.2.2.1 gX1_grasp_X6_commonDivisor_n35 rfl rfl rfl (F.2.2.2.2.2.1.2 _ (List.mem_of_getElem? (i := 5) rfl)) (F.2.2.2.2.1 _ (List.mem_of_getElem? (i := 6) rfl)) (by decide +kernel) ⟨Nat.le_of_ble_eq_true rfl, Nat.le_of_ble_eq_true rfl⟩, F.2.2.2.2.1 _ (List.mem_of_getElem? (i := 5) rfl), trivial⟩ [] rfl rfl rfl (Nat.le_of_ble_eq_true rfl) ⟨Nat.le_of_ble_eq_true rfl, Nat.le_of_ble_eq_true rfl⟩ dX1_grasp_22 (fun v hv => ?_)
        subst hv
        refine g_eq (st' := [jv (((Int.gcd (((g : Nat) : Int)) (b_va c) : Nat) : Int))]) rfl rfl rfl ?_
        refine g_lstore_n F ([(2, jv (((Int.gcd (((g : Nat) : Int)) (b_va c) : Nat) : Int))), (0, .ref (h 0)), (1, .ref (b 0)), (4, iv (((c : Nat) : Int)))]) rfl rfl (by decide) dX1_grasp_25 ?_
        refine g_iinc F 3 rfl ([(4, iv ((((c : Nat) : Int)) + 1)), (2, jv (((Int.gcd (((g : Nat) : Int)) (b_va c) : Nat) : Int))), (0, .ref (h 0)), (1, .ref (b 0))]) rfl (by decide) dX1_grasp_26 ?_
        refine g_goto F (tgt := 8) dX1_grasp_29 (by decide) ?_
        refine g_lsub ([(0, .ref (h 0)), (1, .ref (b 0)), (2, jv (((Int.gcd (((g : Nat) : Int)) (b_va c) : Nat) : Int))), (4, iv ((((c : Nat) : Int)) + 1))]) [2, 3, 1, 0] rfl ?_
        exact ih8 (c + 1) (Int.gcd (((g : Nat) : Int)) (b_va c)) (by omega) (by rw [hg]; rfl) (by omega)
  refine g_lsub ([(0, .ref (h 0)), (1, .ref (b 0)), (2, jv (((b_bel.natAbs : Nat) : Int))), (4, iv (0))]) [2, 3, 1, 0] rfl ?_
  exact lp8 (_ + 1) 0 b_bel.natAbs (by omega) (rfl) (Nat.lt_succ_self _)
