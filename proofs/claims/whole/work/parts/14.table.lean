def bndT (nc : Nat) (S : TS) : Prop := S.2.2.2.2.2.2.1 ≤ 18 ∧ nc ≤ 5 ∧ (∀ i k, k < 5 → -8000000 ≤ S.1 (i * 6 + k) ∧ S.1 (i * 6 + k) ≤ 8000000) ∧ (∀ i, -100000000000 ≤ S.1 (i * 6 + 5) ∧ S.1 (i * 6 + 5) ≤ 100000000000) ∧ (0 < S.2.2.2.2.2.2.2.1 ∧ S.2.2.2.2.2.2.2.1 ≤ 8000000) ∧ (∀ j, 0 ≤ S.2.2.2.2.2.1 j ∧ S.2.2.2.2.2.1 j ≤ 1) ∧ (∀ j, 0 ≤ S.2.1 j ∧ S.2.1 j ≤ 2) ∧ (-1 ≤ S.2.2.2.2.2.2.2.2 ∧ S.2.2.2.2.2.2.2.2 ≤ 4)
def dcLn (S : TS) : Int := firstZ (brokB S.1 S.2.1 S.2.2.2.2.2.2.2.2) S.2.2.2.2.2.2.1
def dcK (nc : Nat) (S : TS) : Int := cheapZ S.1 S.2.2.2.2.2.1 nc (dcLn S).toNat (sideZ S.1 S.2.2.2.2.2.2.2.2 (dcLn S).toNat) nc
def descT (nc : Nat) : Nat → TS → TS × Bool
  | 0, S => (S, false)
  | n + 1, S => if dcLn S < 0 then (S, true) else if dcK nc S < 0 then (S, false) else descT nc n (turnT nc (dcLn S).toNat (dcK nc S).toNat S)
theorem descT_yes {nc n : Nat} {S : TS} (h : dcLn S < 0) : descT nc (n + 1) S = (S, true) := by
  show (if _ then _ else _) = _
  rw [if_pos h]
theorem descT_no {nc n : Nat} {S : TS} (h : ¬ dcLn S < 0) (h2 : dcK nc S < 0) : descT nc (n + 1) S = (S, false) := by
  show (if _ then _ else _) = _
  rw [if_neg h, if_pos h2]
theorem descT_on {nc n : Nat} {S : TS} {a b : Nat} (h : dcLn S = (a : Int)) (h2 : dcK nc S = (b : Int)) : descT nc (n + 1) S = descT nc n (turnT nc a b S) := by
  show (if _ then _ else _) = _
  rw [if_neg (by omega), if_neg (by omega), h, h2, Int.toNat_natCast, Int.toNat_natCast]
theorem firstZ_rng (f : Nat → Bool) : ∀ n, -1 ≤ firstZ f n ∧ firstZ f n < n
  | 0 => by simp [firstZ]
  | n + 1 => by
    have := firstZ_rng f n
    unfold firstZ
    split
    · split <;> omega
    · omega
theorem cheapZ_neg {ce sh : Nat → Int} {nc line : Nat} {sd : Int} : ∀ {n k : Nat}, cheapZ ce sh nc line sd n = (k : Int) → sh k = 0 ∧ ce (line * 6 + k) * sd < 0
  | 0, k, h => by simp [cheapZ] at h <;> omega
  | n + 1, k, h => by
    unfold cheapZ at h
    split at h
    · rename_i q
      have : n = k := by omega
      subst this
      exact ⟨q.1, q.2.1⟩
    · exact cheapZ_neg h
theorem cheapZ_ne {ce sh : Nat → Int} {nc line : Nat} {sd : Int} {n k : Nat} (h : cheapZ ce sh nc line sd n = (k : Int)) : ce (line * 6 + k) ≠ 0 := by
  intro e
  have := (cheapZ_neg h).2
  rw [e] at this
  simp at this
set_option maxHeartbeats 4000000 in
set_option maxRecDepth 100000 in
theorem kX5_descend (l : Launch) (D : va_G) (cA : Nat → ClassId) (t : Nat → Nat) (t_ce : Nat → Int) (t_ti : Nat → Int) (t_lo : Nat → Int) (t_hi : Nat → Int) (t_gl : Nat → Int) (t_sh : Nat → Int) (t_nc : Nat) (t_nl : Nat) (t_bel : Int) (t_far : Int) (Gd : TS → Prop) (hG0 : Gd (t_ce, t_ti, t_lo, t_hi, t_gl, t_sh, t_nl, t_bel, t_far)) (hGb : ∀ X, Gd X → bndT t_nc X) (hGt : ∀ X, Gd X → 0 ≤ dcLn X → 0 ≤ dcK t_nc X → Gd (turnT t_nc (dcLn X).toNat (dcK t_nc X).toNat X)) : CT l yX5_descend wsX5_descend ({ frames := 3, cells := 0, slots := 0, locals := 77 }) D cA [.ref (t 0)] (wT cA t (t_ce) (t_ti) (t_lo) (t_hi) (t_gl) (t_sh) (((t_nc : Nat) : Int)) (((t_nl : Nat) : Int)) (t_bel) (t_far)) (fun ov ow => ov = some (iv (if (descT t_nc 1000000 (t_ce, t_ti, t_lo, t_hi, t_gl, t_sh, t_nl, t_bel, t_far)).2 = true then 1 else 0)) ∧ ow = wTS cA t t_nc ((descT t_nc 1000000 (t_ce, t_ti, t_lo, t_hi, t_gl, t_sh, t_nl, t_bel, t_far)).1)) 0 0 := by
  refine CT.mk (cc := cX5_descend) (maxL := 4) (ret := (some .boolean)) (by decide +kernel) rfl (Nat.le_of_ble_eq_true rfl) ?_
  intro p_ e_ s_ m_ b_ me_ c_ A F hnm hA
  have hV := @IM_P D s_ A
  refine g_lsub ([(0, .ref (t 0))]) [0] rfl ?_
  refine g_iconst F dX5_descend_0 ?_
  refine g_istore_n F ([(1, iv (0)), (0, .ref (t 0))]) rfl rfl (by decide) dX5_descend_1 ?_
  have lp2 : ∀ (n : Nat) (k : Nat) (X : TS) (hk : k ≤ 1000000) (hX : Gd X) (hd : descT t_nc (1000000 - k) X = descT t_nc 1000000 (t_ce, t_ti, t_lo, t_hi, t_gl, t_sh, t_nl, t_bel, t_far)), 1000000 - k < n → GW p_ l e_ (headSpec wsX5_descend ({ frames := 3, cells := 0, slots := 0, locals := 77 })).room s_ m_ ([.ref (t 0)]).toArray b_ me_ c_ (MQ b_ (Qm D (fun ov ow => ov = some (iv (if (descT t_nc 1000000 (t_ce, t_ti, t_lo, t_hi, t_gl, t_sh, t_nl, t_bel, t_far)).2 = true then 1 else 0)) ∧ ow = wTS cA t t_nc ((descT t_nc 1000000 (t_ce, t_ti, t_lo, t_hi, t_gl, t_sh, t_nl, t_bel, t_far)).1)) A) ([.ref (t 0)]).toArray s_ 0 0 A) (IM D s_ A) 4 0 0 (wT cA t (X.1) (X.2.1) (X.2.2.1) (X.2.2.2.1) (X.2.2.2.2.1) (X.2.2.2.2.2.1) (((t_nc : Nat) : Int)) (((X.2.2.2.2.2.2.1 : Nat) : Int)) (X.2.2.2.2.2.2.2.1) (X.2.2.2.2.2.2.2.2)) ([(0, .ref (t 0)), (1, iv (((k : Nat) : Int)))]) [] 2 := by
    intro n; induction n with
    | zero => intro k X; intros; omega
    | succ n ih2 =>
      intro k X hk hX hd hmu2
      obtain ⟨b1, b2, b3, b4, b5, b6, b7, b8⟩ := hGb X hX
      refine g_iload_n F 1 rfl rfl dX5_descend_2 ?_
      refine g_ldc F (1000000) (by decide) (List.mem_of_getElem? (i := 1) rfl) dX5_descend_3 ?_
      refine g_icmp_ge F (tgt := 43) dX5_descend_5 (by decide) ⟨by omega, by omega⟩ ⟨by decide, by decide⟩ (fun c_1 => ?_) (fun c_1 => ?_)
      · skip
        have hE : descT t_nc 1000000 (t_ce, t_ti, t_lo, t_hi, t_gl, t_sh, t_nl, t_bel, t_far) = (X, false) := by rw [← hd, show 1000000 - k = 0 by omega]; rfl
        refine g_iconst F dX5_descend_43 ?_
        exact g_zret F rfl (nar_01 (Or.inl rfl)) (by decide) (by decide) ⟨congrArg (fun z => some (iv z)) (show (0 : Int) = if (descT t_nc 1000000 (t_ce, t_ti, t_lo, t_hi, t_gl, t_sh, t_nl, t_bel, t_far)).2 = true then 1 else 0 by rw [hE]; rfl), (by rw [hE])⟩ dX5_descend_44
      · skip
        refine g_aload_n F 0 rfl rfl dX5_descend_8 ?_
        refine g_callRV F hV (As := []) (rest := []) (kX5_brokenLine l D cA t X.1 X.2.1 X.2.2.1 X.2.2.2.1 X.2.2.2.2.1 X.2.2.2.2.2.1 t_nc X.2.2.2.2.2.2.1 X.2.2.2.2.2.2.2.1 X.2.2.2.2.2.2.2.2 (b1) (b8) (b3) (b4) (b7)) (cwV 0 F.2.2.2.2.1 gX5_descend_X5_brokenLine rfl rfl rfl (by decide +kernel) ⟨Nat.le_of_ble_eq_true rfl, Nat.le_of_ble_eq_true rfl⟩) rfl rfl (q0 := 0) rfl [0, 1, 2, 3, 4, 5, 6] rfl rfl rfl (Nat.le_of_ble_eq_true rfl) ⟨Nat.le_of_ble_eq_true rfl, Nat.le_of_ble_eq_true rfl⟩ dX5_descend_9 (fun v hv => ?_)
        subst hv
        refine g_eq (st' := [iv (firstZ (brokB X.1 X.2.1 X.2.2.2.2.2.2.2.2) X.2.2.2.2.2.2.1)]) rfl rfl rfl ?_
        obtain ⟨ln, hln⟩ : ∃ y : Int, y = firstZ (brokB X.1 X.2.1 X.2.2.2.2.2.2.2.2) X.2.2.2.2.2.2.1 := ⟨_, rfl⟩
        rw [← hln]
        have hlr := firstZ_rng (brokB X.1 X.2.1 X.2.2.2.2.2.2.2.2) X.2.2.2.2.2.2.1
        refine g_istore_n F ([(2, iv (ln)), (0, .ref (t 0)), (1, iv (((k : Nat) : Int)))]) rfl rfl (by decide) dX5_descend_12 ?_
        refine g_iload_n F 0 rfl rfl dX5_descend_13 ?_
        refine g_if_ge F (tgt := 19) dX5_descend_14 (by decide) ⟨by omega, by omega⟩ (fun c_2 => ?_) (fun c_2 => ?_)
        · skip
          obtain ⟨lm, hlm⟩ : ∃ lm : Nat, ln = (lm : Int) := ⟨ln.toNat, by omega⟩
          subst hlm
          have hlX : dcLn X = (lm : Int) := hln.symm
          refine g_aload_n F 1 rfl rfl dX5_descend_19 ?_
          refine g_iload_n F 0 rfl rfl dX5_descend_20 ?_
          refine g_callRV F hV (As := [iv (((lm : Nat) : Int))]) (rest := []) (kX5_cheapestWay l D cA t X.1 X.2.1 X.2.2.1 X.2.2.2.1 X.2.2.2.2.1 X.2.2.2.2.2.1 t_nc X.2.2.2.2.2.2.1 X.2.2.2.2.2.2.2.1 X.2.2.2.2.2.2.2.2 lm (by omega) (b2) (b8) (b3) (b4) (b6)) (cwV 1 F.2.2.2.2.1 gX5_descend_X5_cheapestWay rfl rfl rfl (by decide +kernel) ⟨Nat.le_of_ble_eq_true rfl, Nat.le_of_ble_eq_true rfl⟩) rfl rfl (q0 := 0) rfl [0, 1, 2, 3, 4, 5, 6] rfl rfl rfl (Nat.le_of_ble_eq_true rfl) ⟨Nat.le_of_ble_eq_true rfl, Nat.le_of_ble_eq_true rfl⟩ dX5_descend_21 (fun v hv => ?_)
          subst hv
          refine g_eq (st' := [iv (cheapZ X.1 X.2.2.2.2.2.1 t_nc lm (sideZ X.1 X.2.2.2.2.2.2.2.2 lm) t_nc)]) rfl rfl rfl ?_
          obtain ⟨kq, hkq⟩ : ∃ y : Int, y = cheapZ X.1 X.2.2.2.2.2.1 t_nc lm (sideZ X.1 X.2.2.2.2.2.2.2.2 lm) t_nc := ⟨_, rfl⟩
          rw [← hkq]
          have hkr := cheapZ_rng X.1 X.2.2.2.2.2.1 t_nc lm (sideZ X.1 X.2.2.2.2.2.2.2.2 lm) t_nc
          have hkX : dcK t_nc X = kq := by unfold dcK; rw [hlX, Int.toNat_natCast]; exact hkq.symm
          refine g_istore_n F ([(3, iv (kq)), (2, iv (((lm : Nat) : Int))), (0, .ref (t 0)), (1, iv (((k : Nat) : Int)))]) rfl rfl (by decide) dX5_descend_24 ?_
          refine g_iload_n F 0 rfl rfl dX5_descend_25 ?_
          refine g_if_ge F (tgt := 31) dX5_descend_26 (by decide) ⟨by omega, by omega⟩ (fun c_3 => ?_) (fun c_3 => ?_)
          · skip
            obtain ⟨km, hkm⟩ : ∃ km : Nat, kq = (km : Int) := ⟨kq.toNat, by omega⟩
            subst hkm
            refine g_aload_n F 2 rfl rfl dX5_descend_31 ?_
            refine g_iload_n F 1 rfl rfl dX5_descend_32 ?_
            refine g_iload_n F 0 rfl rfl dX5_descend_33 ?_
            refine g_callV F (As := [iv (((lm : Nat) : Int)), iv (((km : Nat) : Int))]) (rest := []) (wr := []) (kX5_turn l D cA t X.1 X.2.1 X.2.2.1 X.2.2.2.1 X.2.2.2.2.1 X.2.2.2.2.2.1 t_nc X.2.2.2.2.2.2.1 X.2.2.2.2.2.2.2.1 X.2.2.2.2.2.2.2.2 lm km (by omega) (by omega) (b1) (b2) (b3) (b4) (b5) (b6) (b7) (b8) (cheapZ_ne hkq.symm)) (cwV 2 F.2.2.2.2.1 gX5_descend_X5_turn rfl rfl rfl (by decide +kernel) ⟨Nat.le_of_ble_eq_true rfl, Nat.le_of_ble_eq_true rfl⟩) rfl rfl (q0 := 0) rfl [0, 1, 2, 3, 4, 5, 6] [] rfl rfl (by decide) (by decide) (by decide) rfl rfl (Nat.le_of_ble_eq_true rfl) ⟨Nat.le_of_ble_eq_true rfl, Nat.le_of_ble_eq_true rfl⟩ hA dX5_descend_34 (fun v w hv => ?_)
            obtain ⟨hv, hw⟩ := hv
            subst hv
            subst hw
            refine g_wsub (wT cA t ((turnT t_nc lm km (X.1, X.2.1, X.2.2.1, X.2.2.2.1, X.2.2.2.2.1, X.2.2.2.2.2.1, X.2.2.2.2.2.2.1, X.2.2.2.2.2.2.2.1, X.2.2.2.2.2.2.2.2)).1) ((turnT t_nc lm km (X.1, X.2.1, X.2.2.1, X.2.2.2.1, X.2.2.2.2.1, X.2.2.2.2.2.1, X.2.2.2.2.2.2.1, X.2.2.2.2.2.2.2.1, X.2.2.2.2.2.2.2.2)).2.1) ((turnT t_nc lm km (X.1, X.2.1, X.2.2.1, X.2.2.2.1, X.2.2.2.2.1, X.2.2.2.2.2.1, X.2.2.2.2.2.2.1, X.2.2.2.2.2.2.2.1, X.2.2.2.2.2.2.2.2)).2.2.1) ((turnT t_nc lm km (X.1, X.2.1, X.2.2.1, X.2.2.2.1, X.2.2.2.2.1, X.2.2.2.2.2.1, X.2.2.2.2.2.2.1, X.2.2.2.2.2.2.2.1, X.2.2.2.2.2.2.2.2)).2.2.2.1) ((turnT t_nc lm km (X.1, X.2.1, X.2.2.1, X.2.2.2.1, X.2.2.2.2.1, X.2.2.2.2.2.1, X.2.2.2.2.2.2.1, X.2.2.2.2.2.2.2.1, X.2.2.2.2.2.2.2.2)).2.2.2.2.1) ((turnT t_nc lm km (X.1, X.2.1, X.2.2.1, X.2.2.2.1, X.2.2.2.2.1, X.2.2.2.2.2.1, X.2.2.2.2.2.2.1, X.2.2.2.2.2.2.2.1, X.2.2.2.2.2.2.2.2)).2.2.2.2.2.1) (((t_nc : Nat) : Int)) ((((turnT t_nc lm km (X.1, X.2.1, X.2.2.1, X.2.2.2.1, X.2.2.2.2.1, X.2.2.2.2.2.1, X.2.2.2.2.2.2.1, X.2.2.2.2.2.2.2.1, X.2.2.2.2.2.2.2.2)).2.2.2.2.2.2.1 : Nat) : Int)) ((turnT t_nc lm km (X.1, X.2.1, X.2.2.1, X.2.2.2.1, X.2.2.2.2.1, X.2.2.2.2.2.1, X.2.2.2.2.2.2.1, X.2.2.2.2.2.2.2.1, X.2.2.2.2.2.2.2.2)).2.2.2.2.2.2.2.1) ((turnT t_nc lm km (X.1, X.2.1, X.2.2.1, X.2.2.2.1, X.2.2.2.2.1, X.2.2.2.2.2.1, X.2.2.2.2.2.2.1, X.2.2.2.2.2.2.2.1, X.2.2.2.2.2.2.2.2)).2.2.2.2.2.2.2.2)) [0, 1, 2, 3, 4, 5, 6] (by decide) rfl ?_
            refine g_eq (st' := []) rfl rfl rfl ?_
            refine g_iinc F 3 rfl ([(1, iv ((((k : Nat) : Int)) + 1)), (3, iv (((km : Nat) : Int))), (2, iv (((lm : Nat) : Int))), (0, .ref (t 0))]) rfl (by decide) dX5_descend_37 ?_
            refine g_goto F (tgt := 2) dX5_descend_40 (by decide) ?_
            refine g_lsub ([(0, .ref (t 0)), (1, iv ((((k : Nat) : Int)) + 1))]) [3, 0] rfl ?_
            exact ih2 (k + 1) (turnT t_nc lm km X) (by omega) (by have h9 := hGt X hX (by rw [hlX]; omega) (by rw [hkX]; omega); rw [hlX, hkX, Int.toNat_natCast, Int.toNat_natCast] at h9; exact h9) (by rw [← hd, show 1000000 - k = (1000000 - (k + 1)) + 1 by omega]; exact (descT_on hlX hkX).symm) (by omega)
          · skip
            have hE : descT t_nc 1000000 (t_ce, t_ti, t_lo, t_hi, t_gl, t_sh, t_nl, t_bel, t_far) = (X, false) := by rw [← hd, show 1000000 - k = (1000000 - (k + 1)) + 1 by omega]; exact descT_no (by omega) (by omega)
            refine g_iconst F dX5_descend_29 ?_
            exact g_zret F rfl (nar_01 (Or.inl rfl)) (by decide) (by decide) ⟨congrArg (fun z => some (iv z)) (show (0 : Int) = if (descT t_nc 1000000 (t_ce, t_ti, t_lo, t_hi, t_gl, t_sh, t_nl, t_bel, t_far)).2 = true then 1 else 0 by rw [hE]; rfl), (by rw [hE])⟩ dX5_descend_30
        · skip
          have hE : descT t_nc 1000000 (t_ce, t_ti, t_lo, t_hi, t_gl, t_sh, t_nl, t_bel, t_far) = (X, true) := by rw [← hd, show 1000000 - k = (1000000 - (k + 1)) + 1 by omega]; exact descT_yes (by unfold dcLn; omega)
          refine g_iconst F dX5_descend_17 ?_
          exact g_zret F rfl (nar_01 (Or.inr rfl)) (by decide) (by decide) ⟨congrArg (fun z => some (iv z)) (show (1 : Int) = if (descT t_nc 1000000 (t_ce, t_ti, t_lo, t_hi, t_gl, t_sh, t_nl, t_bel, t_far)).2 = true then 1 else 0 by rw [hE]; rfl), (by rw [hE])⟩ dX5_descend_18
  refine g_lsub ([(0, .ref (t 0)), (1, iv (0))]) [1, 0] rfl ?_
  exact lp2 (_ + 1) 0 ((t_ce, t_ti, t_lo, t_hi, t_gl, t_sh, t_nl, t_bel, t_far)) (by omega) (hG0) (rfl) (Nat.lt_succ_self _)
