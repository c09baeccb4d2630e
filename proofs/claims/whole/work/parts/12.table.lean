/-- n values g laid into f from place a on -/
def rowZ (f : Nat → Int) (a : Nat) (g : Nat → Int) (n : Nat) : Nat → Int := fun q => if a ≤ q ∧ q < a + n then g (q - a) else f q
theorem row_0 (f : Nat → Int) (a : Nat) (g : Nat → Int) : rowZ f a g 0 = f := by
  funext q; unfold rowZ; rw [if_neg (by omega)]
theorem row_up {f : Nat → Int} {a : Nat} {g : Nat → Int} {n : Nat} {v : Int} (h : v = g n) : va_up (rowZ f a g n) (a + n) v = rowZ f a g (n + 1) := by
  funext q
  unfold va_up rowZ
  by_cases h1 : q = a + n
  · rw [if_pos h1, if_pos (by omega), h, show q - a = n by omega]
  · rw [if_neg h1]
    by_cases h2 : a ≤ q ∧ q < a + n
    · rw [if_pos h2, if_pos (by omega)]
    · rw [if_neg h2, if_neg (by omega)]
theorem row_out {f : Nat → Int} {a : Nat} {g : Nat → Int} {n q : Nat} (h : q < a ∨ a + n ≤ q) : rowZ f a g n q = f q := by
  unfold rowZ; rw [if_neg (by omega)]
theorem row_in {f : Nat → Int} {a : Nat} {g : Nat → Int} {n q : Nat} (h : a ≤ q) (h2 : q < a + n) : rowZ f a g n q = g (q - a) := by
  unfold rowZ; rw [if_pos ⟨h, h2⟩]
def way2 (k : Int) : Int := if k = 0 then -1 else 1
/-- a row's own cells, ahead of its corner -/
def rwG (ce sa : Nat → Int) (r : Nat) (way : Int) : Nat → Int := fun j => way * sa (r * 5 + j) * ce ((1 + j) * 6 + j)
def addRowT (nc : Nat) (kind : Int) (sa : Nat → Int) (r : Nat) (number : Int) (S : TS) : TS :=
  (va_up (rowZ (fillZ S.1 (S.2.2.2.2.2.2.1 * 6) 6 0) (S.2.2.2.2.2.2.1 * 6) (rwG (fillZ S.1 (S.2.2.2.2.2.2.1 * 6) 6 0) sa r (way2 kind)) nc) (S.2.2.2.2.2.2.1 * 6 + 5) (way2 kind * (-number + sumZ (fun j => sa (r * 5 + j) * valZ S.2.2.1 (fillZ S.1 (S.2.2.2.2.2.2.1 * 6) 6 0) S.2.2.2.2.2.2.2.1 j) nc)),
    va_up S.2.1 S.2.2.2.2.2.2.1 (if kind = 2 then 2 else 1), S.2.2.1, S.2.2.2.1, S.2.2.2.2.1, S.2.2.2.2.2.1, S.2.2.2.2.2.2.1 + 1, S.2.2.2.2.2.2.2.1, S.2.2.2.2.2.2.2.2)
set_option maxHeartbeats 4000000 in
set_option maxRecDepth 100000 in
theorem kX5_addRow (l : Launch) (D : va_G) (cA : Nat → ClassId) (t : Nat → Nat) (t_ce : Nat → Int) (t_ti : Nat → Int) (t_lo : Nat → Int) (t_hi : Nat → Int) (t_gl : Nat → Int) (t_sh : Nat → Int) (t_nc : Nat) (t_nl : Nat) (t_bel : Int) (t_far : Int) (a : Nat → Nat) (a_kd : Nat → Int) (a_lo : Nat → Int) (a_hi : Nat → Int) (a_co : Nat → Int) (a_pa : Nat → Int) (a_rk : Nat → Int) (a_nu : Nat → Int) (a_ct : Nat → Int) (a_sa : Nat → Int) (a_nc : Nat) (a_nr : Nat) (r : Nat) (q : Int) (hr : r < 7) (hq : -1000 ≤ q ∧ q ≤ 1000) (hnl : t_nl < 18) (hnc : t_nc ≤ 5) (hcl : t_nc < t_nl) (hlo : ∀ j, -20 ≤ t_lo j ∧ t_lo j ≤ 20) (hrk : ∀ j, 0 ≤ a_rk j ∧ a_rk j ≤ 2) (hsa : ∀ j, -9 ≤ a_sa j ∧ a_sa j ≤ 9) : CT l yX5_addRow wsX5_addRow ({ frames := 1, cells := 0, slots := 0, locals := 23 }) D cA [.ref (t 0), .ref (a 0), iv (((r : Nat) : Int)), iv (q)] (wT cA t (t_ce) (t_ti) (t_lo) (t_hi) (t_gl) (t_sh) (((t_nc : Nat) : Int)) (((t_nl : Nat) : Int)) (t_bel) (t_far) ++ wP cA a (a_kd) (a_lo) (a_hi) (a_co) (a_pa) (a_rk) (a_nu) (a_ct) (a_sa) (((a_nc : Nat) : Int)) (((a_nr : Nat) : Int))) (fun ov ow => ov = none ∧ ow = wTS cA t t_nc (addRowT t_nc (a_rk r) a_sa r q (t_ce, t_ti, t_lo, t_hi, t_gl, t_sh, t_nl, t_bel, t_far)) ++ wP cA a a_kd a_lo a_hi a_co a_pa a_rk a_nu a_ct a_sa (a_nc : Int) (a_nr : Int)) 0 0 := by
  refine CT.mk (cc := cX5_addRow) (maxL := 12) (ret := none) (by decide +kernel) rfl (Nat.le_of_ble_eq_true rfl) ?_
  intro p_ e_ s_ m_ b_ me_ c_ A F hnm hA
  have hV := @IM_P D s_ A
  have iX2 : ∀ w ∈ u_ws RX2 TX2 11, w ∈ wsX5_addRow := by decide +kernel
  have iX5 : ∀ w ∈ u_ws RX5 TX5 10, w ∈ wsX5_addRow := by decide +kernel
  have hw2 : way2 (a_rk r) = -1 ∨ way2 (a_rk r) = 1 := by unfold way2; split <;> simp
  refine g_lsub ([(0, .ref (t 0)), (1, .ref (a 0)), (2, iv (((r : Nat) : Int))), (3, iv (q))]) [0, 1, 2, 3] rfl ?_
  refine g_aload_n F 1 rfl rfl dX5_addRow_0 ?_
  refine g_get F hV iX2 7 rfl rfl 5 (by decide) (List.mem_of_getElem? (i := 1) rfl) rfl dX5_addRow_1 ?_
  refine g_iload_n F 2 rfl rfl dX5_addRow_4 ?_
  have r_1 := hrk (r)
  refine g_iald F hV 13 rfl (r) (by omega) (by omega) (by decide) dX5_addRow_5 ?_
  refine g_istore F ([(4, iv (a_rk r)), (0, .ref (t 0)), (1, .ref (a 0)), (2, iv (((r : Nat) : Int))), (3, iv (q))]) rfl (by decide) dX5_addRow_6 ?_
  refine g_iload F 0 rfl dX5_addRow_8 ?_
  refine g_if_ne F (tgt := 17) dX5_addRow_10 (by decide) ⟨by omega, by omega⟩ (fun c_2 => ?_) (fun c_2 => ?_)
  · skip
    refine g_iconst F dX5_addRow_17 ?_
    refine g_eq (st' := [iv (way2 (a_rk r))]) rfl rfl (congrArg (fun zz => [iv zz]) (show (1 : Int) = way2 (a_rk r) from (by unfold way2; first | (rw [if_pos (by omega)]; done) | (rw [if_neg (by omega)]; done)))) ?_
    refine g_istore F ([(5, iv (way2 (a_rk r))), (4, iv (a_rk r)), (0, .ref (t 0)), (1, .ref (a 0)), (2, iv (((r : Nat) : Int))), (3, iv (q))]) rfl (by decide) dX5_addRow_18 ?_
    refine g_aload_n F 2 rfl rfl dX5_addRow_20 ?_
    refine g_iload F 1 rfl dX5_addRow_21 ?_
    refine g_iconst F dX5_addRow_23 ?_
    refine g_icmp_ne F (tgt := 31) dX5_addRow_24 (by decide) ⟨by omega, by omega⟩ ⟨by decide, by decide⟩ (fun c_3 => ?_) (fun c_3 => ?_)
    · skip
      refine g_iconst F dX5_addRow_31 ?_
      refine g_eq (st' := [iv (if a_rk r = 2 then 2 else 1), .ref (t 0)]) rfl rfl (congrArg (fun zz => [iv zz, .ref (t 0)]) (show (1 : Int) = if a_rk r = 2 then 2 else 1 from (by first | (rw [if_pos (by omega)]; done) | (rw [if_neg (by omega)]; done)))) ?_
      refine g_callV F (As := [iv (if a_rk r = 2 then 2 else 1)]) (rest := []) (wr := wP cA a (a_kd) (a_lo) (a_hi) (a_co) (a_pa) (a_rk) (a_nu) (a_ct) (a_sa) (((a_nc : Nat) : Int)) (((a_nr : Nat) : Int))) (kX5_addLine l D cA t t_ce t_ti t_lo t_hi t_gl t_sh t_nc t_nl t_bel t_far (if a_rk r = 2 then 2 else 1) (hnl) (by split <;> omega)) (cwV 1 F.2.2.2.2.1 gX5_addRow_X5_addLine rfl rfl rfl (by decide +kernel) ⟨Nat.le_of_ble_eq_true rfl, Nat.le_of_ble_eq_true rfl⟩) rfl rfl (q0 := 0) rfl [0, 1, 2, 3, 4, 5, 6] [7, 8, 9, 10, 11, 12, 13, 14, 15, 16] rfl rfl (by decide) (by decide) (by decide) rfl rfl (Nat.le_of_ble_eq_true rfl) ⟨Nat.le_of_ble_eq_true rfl, Nat.le_of_ble_eq_true rfl⟩ hA dX5_addRow_32 (fun v w hv => ?_)
      obtain ⟨hv, hw⟩ := hv
      subst hv
      subst hw
      refine g_wsub (wT cA t ((addLineT (if a_rk r = 2 then 2 else 1) (t_ce, t_ti, t_lo, t_hi, t_gl, t_sh, t_nl, t_bel, t_far)).1) ((addLineT (if a_rk r = 2 then 2 else 1) (t_ce, t_ti, t_lo, t_hi, t_gl, t_sh, t_nl, t_bel, t_far)).2.1) ((addLineT (if a_rk r = 2 then 2 else 1) (t_ce, t_ti, t_lo, t_hi, t_gl, t_sh, t_nl, t_bel, t_far)).2.2.1) ((addLineT (if a_rk r = 2 then 2 else 1) (t_ce, t_ti, t_lo, t_hi, t_gl, t_sh, t_nl, t_bel, t_far)).2.2.2.1) ((addLineT (if a_rk r = 2 then 2 else 1) (t_ce, t_ti, t_lo, t_hi, t_gl, t_sh, t_nl, t_bel, t_far)).2.2.2.2.1) ((addLineT (if a_rk r = 2 then 2 else 1) (t_ce, t_ti, t_lo, t_hi, t_gl, t_sh, t_nl, t_bel, t_far)).2.2.2.2.2.1) (((t_nc : Nat) : Int)) ((((addLineT (if a_rk r = 2 then 2 else 1) (t_ce, t_ti, t_lo, t_hi, t_gl, t_sh, t_nl, t_bel, t_far)).2.2.2.2.2.2.1 : Nat) : Int)) ((addLineT (if a_rk r = 2 then 2 else 1) (t_ce, t_ti, t_lo, t_hi, t_gl, t_sh, t_nl, t_bel, t_far)).2.2.2.2.2.2.2.1) ((addLineT (if a_rk r = 2 then 2 else 1) (t_ce, t_ti, t_lo, t_hi, t_gl, t_sh, t_nl, t_bel, t_far)).2.2.2.2.2.2.2.2) ++ wP cA a (a_kd) (a_lo) (a_hi) (a_co) (a_pa) (a_rk) (a_nu) (a_ct) (a_sa) (((a_nc : Nat) : Int)) (((a_nr : Nat) : Int))) [10, 11, 12, 13, 14, 15, 16, 0, 1, 2, 3, 4, 5, 6, 7, 8, 9] (by decide) rfl ?_
      refine g_eq (st' := [iv (((t_nl * 6 : Nat) : Int))]) rfl rfl rfl ?_
      refine g_istore F ([(6, iv (((t_nl * 6 : Nat) : Int))), (5, iv (way2 (a_rk r))), (4, iv (a_rk r)), (0, .ref (t 0)), (1, .ref (a 0)), (2, iv (((r : Nat) : Int))), (3, iv (q))]) rfl (by decide) dX5_addRow_35 ?_
      refine g_iload_n F 6 rfl rfl dX5_addRow_37 ?_
      refine g_ineg F dX5_addRow_38 ?_
      refine g_i2l F ⟨by omega, by omega⟩ dX5_addRow_39 ?_
      refine g_lstore F ([(7, jv (-q)), (6, iv (((t_nl * 6 : Nat) : Int))), (5, iv (way2 (a_rk r))), (4, iv (a_rk r)), (0, .ref (t 0)), (1, .ref (a 0)), (2, iv (((r : Nat) : Int))), (3, iv (q))]) rfl (by decide) dX5_addRow_40 ?_
      refine g_iconst F dX5_addRow_42 ?_
      refine g_istore F ([(9, iv (0)), (7, jv (-q)), (6, iv (((t_nl * 6 : Nat) : Int))), (5, iv (way2 (a_rk r))), (4, iv (a_rk r)), (0, .ref (t 0)), (1, .ref (a 0)), (2, iv (((r : Nat) : Int))), (3, iv (q))]) rfl (by decide) dX5_addRow_43 ?_
      have lp45 : ∀ (n : Nat) (c : Nat) (cx : Nat → Int) (x : Int) (hc : c ≤ t_nc) (hcx : cx = rowZ (fillZ t_ce (t_nl * 6) 6 0) (t_nl * 6) (rwG (fillZ t_ce (t_nl * 6) 6 0) a_sa r (way2 (a_rk r))) c) (hx : x = -q + sumZ (fun j => a_sa (r * 5 + j) * valZ t_lo (fillZ t_ce (t_nl * 6) 6 0) t_bel j) c), t_nc - c < n → GW p_ l e_ (headSpec wsX5_addRow ({ frames := 1, cells := 0, slots := 0, locals := 23 })).room s_ m_ ([.ref (t 0), .ref (a 0), iv (((r : Nat) : Int)), iv (q)]).toArray b_ me_ c_ (MQ b_ (Qm D (fun ov ow => ov = none ∧ ow = wTS cA t t_nc (addRowT t_nc (a_rk r) a_sa r q (t_ce, t_ti, t_lo, t_hi, t_gl, t_sh, t_nl, t_bel, t_far)) ++ wP cA a a_kd a_lo a_hi a_co a_pa a_rk a_nu a_ct a_sa (a_nc : Int) (a_nr : Int)) A) ([.ref (t 0), .ref (a 0), iv (((r : Nat) : Int)), iv (q)]).toArray s_ 0 0 A) (IM D s_ A) 12 0 0 (wT cA t (cx) (va_up t_ti t_nl (if a_rk r = 2 then 2 else 1)) (t_lo) (t_hi) (t_gl) (t_sh) (((t_nc : Nat) : Int)) (((t_nl + 1 : Nat) : Int)) (t_bel) (t_far) ++ wP cA a (a_kd) (a_lo) (a_hi) (a_co) (a_pa) (a_rk) (a_nu) (a_ct) (a_sa) (((a_nc : Nat) : Int)) (((a_nr : Nat) : Int))) ([(0, .ref (t 0)), (1, .ref (a 0)), (2, iv (((r : Nat) : Int))), (3, iv (q)), (4, iv (a_rk r)), (5, iv (way2 (a_rk r))), (6, iv (((t_nl * 6 : Nat) : Int))), (7, jv (x)), (9, iv (((c : Nat) : Int)))]) [] 45 := by
        intro n; induction n with
        | zero => intro c cx x; intros; omega
        | succ n ih45 =>
          intro c cx x hc hcx hx hmu45
          refine g_iload F 8 rfl dX5_addRow_45 ?_
          refine g_aload_n F 0 rfl rfl dX5_addRow_47 ?_
          refine g_get F hV iX5 0 rfl rfl 6 (by decide) (List.mem_of_getElem? (i := 2) rfl) rfl dX5_addRow_48 ?_
          refine g_icmp_ge F (tgt := 116) dX5_addRow_51 (by decide) ⟨by omega, by omega⟩ ⟨by omega, by omega⟩ (fun c_4 => ?_) (fun c_4 => ?_)
          · skip
            refine g_aload_n F 0 rfl rfl dX5_addRow_116 ?_
            refine g_get F hV iX5 0 rfl rfl 0 (by decide) (List.mem_of_getElem? (i := 3) rfl) rfl dX5_addRow_117 ?_
            refine g_iload F 6 rfl dX5_addRow_120 ?_
            refine g_iconst F dX5_addRow_122 ?_
            refine g_iadd F dX5_addRow_123 ?_
            refine g_iload F 5 rfl dX5_addRow_124 ?_
            refine g_i2l F ⟨by omega, by omega⟩ dX5_addRow_126 ?_
            refine g_lload F 7 rfl dX5_addRow_127 ?_
            refine g_lmul F dX5_addRow_129 ?_
            refine g_last F 1 rfl ((t_nl * 6) + 5) (by omega) (by omega) (by decide) (wT cA t (va_up cx ((t_nl * 6) + 5) ((way2 (a_rk r)) * x)) (va_up t_ti t_nl (if a_rk r = 2 then 2 else 1)) (t_lo) (t_hi) (t_gl) (t_sh) (((t_nc : Nat) : Int)) (((t_nl + 1 : Nat) : Int)) (t_bel) (t_far) ++ wP cA a (a_kd) (a_lo) (a_hi) (a_co) (a_pa) (a_rk) (a_nu) (a_ct) (a_sa) (((a_nc : Nat) : Int)) (((a_nr : Nat) : Int))) rfl dX5_addRow_130 ?_
            exact g_vret F rfl (by decide) (by decide) ⟨rfl, (by have hce : c = t_nc := (by omega); subst hce; rw [hx, hcx]; rfl)⟩ dX5_addRow_131
          · skip
            refine g_aload_n F 1 rfl rfl dX5_addRow_54 ?_
            refine g_iload_n F 2 rfl rfl dX5_addRow_55 ?_
            refine g_iload F 8 rfl dX5_addRow_56 ?_
            refine g_callRV F hV (As := [iv (((r : Nat) : Int)), iv (((c : Nat) : Int))]) (rest := []) (kX2_shareOf l D cA a a_kd a_lo a_hi a_co a_pa a_rk a_nu a_ct a_sa a_nc a_nr r c (hr) (by omega)) (cwV 2 F.2.2.2.2.1 gX5_addRow_X2_shareOf rfl rfl rfl (by decide +kernel) ⟨Nat.le_of_ble_eq_true rfl, Nat.le_of_ble_eq_true rfl⟩) rfl rfl (q0 := 0) rfl [7, 8, 9, 10, 11, 12, 13, 14, 15, 16] rfl rfl rfl (Nat.le_of_ble_eq_true rfl) ⟨Nat.le_of_ble_eq_true rfl, Nat.le_of_ble_eq_true rfl⟩ dX5_addRow_58 (fun v hv => ?_)
            subst hv
            refine g_eq (st' := [iv (a_sa (r * 5 + c))]) rfl rfl rfl ?_
            have hs := hsa (r * 5 + c)
            refine g_i2l F ⟨by omega, by omega⟩ dX5_addRow_61 ?_
            refine g_lstore F ([(10, jv (a_sa (r * 5 + c))), (0, .ref (t 0)), (1, .ref (a 0)), (2, iv (((r : Nat) : Int))), (3, iv (q)), (4, iv (a_rk r)), (5, iv (way2 (a_rk r))), (6, iv (((t_nl * 6 : Nat) : Int))), (7, jv (x)), (9, iv (((c : Nat) : Int)))]) rfl (by decide) dX5_addRow_62 ?_
            refine g_lload F 8 rfl dX5_addRow_64 ?_
            refine g_lload F 0 rfl dX5_addRow_66 ?_
            refine g_aload_n F 1 rfl rfl dX5_addRow_68 ?_
            refine g_iload F 9 rfl dX5_addRow_69 ?_
            refine g_callRV F hV (As := [iv (((c : Nat) : Int))]) (rest := [jv (a_sa (r * 5 + c)), jv (x)]) (kX5_valueAbove l D cA t cx (va_up t_ti t_nl (if a_rk r = 2 then 2 else 1)) t_lo t_hi t_gl t_sh t_nc (t_nl + 1) t_bel t_far c (by omega) (hlo)) (cwV 1 F.2.2.2.2.1 gX5_addRow_X5_valueAbove rfl rfl rfl (by decide +kernel) ⟨Nat.le_of_ble_eq_true rfl, Nat.le_of_ble_eq_true rfl⟩) rfl rfl (q0 := 0) rfl [0, 1, 2, 3, 4, 5, 6] rfl rfl rfl (Nat.le_of_ble_eq_true rfl) ⟨Nat.le_of_ble_eq_true rfl, Nat.le_of_ble_eq_true rfl⟩ dX5_addRow_71 (fun v hv => ?_)
            subst hv
            refine g_eq (st' := [jv (valZ t_lo cx t_bel c), jv (a_sa (r * 5 + c)), jv (x)]) rfl rfl rfl ?_
            refine g_lmul F dX5_addRow_74 ?_
            refine g_ladd F dX5_addRow_75 ?_
            refine g_lstore F ([(7, jv (x + ((a_sa (r * 5 + c)) * (valZ t_lo cx t_bel c)))), (10, jv (a_sa (r * 5 + c))), (0, .ref (t 0)), (1, .ref (a 0)), (2, iv (((r : Nat) : Int))), (3, iv (q)), (4, iv (a_rk r)), (5, iv (way2 (a_rk r))), (6, iv (((t_nl * 6 : Nat) : Int))), (9, iv (((c : Nat) : Int)))]) rfl (by decide) dX5_addRow_76 ?_
            refine g_aload_n F 2 rfl rfl dX5_addRow_78 ?_
            refine g_get F hV iX5 0 rfl rfl 0 (by decide) (List.mem_of_getElem? (i := 3) rfl) rfl dX5_addRow_79 ?_
            refine g_iload F 8 rfl dX5_addRow_82 ?_
            refine g_iload F 9 rfl dX5_addRow_84 ?_
            refine g_iadd F dX5_addRow_86 ?_
            refine g_iload F 7 rfl dX5_addRow_87 ?_
            refine g_i2l F ⟨by omega, by omega⟩ dX5_addRow_89 ?_
            refine g_lload F 1 rfl dX5_addRow_90 ?_
            refine g_lmul F dX5_addRow_92 ?_
            refine g_aload_n F 2 rfl rfl dX5_addRow_93 ?_
            refine g_get F hV iX5 0 rfl rfl 0 (by decide) (List.mem_of_getElem? (i := 3) rfl) rfl dX5_addRow_94 ?_
            refine g_iconst F dX5_addRow_97 ?_
            refine g_iload F 9 rfl dX5_addRow_98 ?_
            refine g_iadd F dX5_addRow_100 ?_
            refine g_bipush F dX5_addRow_101 (by decide) ?_
            refine g_imul F dX5_addRow_103 ?_
            refine g_iload F 9 rfl dX5_addRow_104 ?_
            refine g_iadd F dX5_addRow_106 ?_
            refine g_lald F hV 1 rfl (((1 + c) * 6) + c) (by omega) (by omega) (by decide) dX5_addRow_107 ?_
            refine g_lmul F dX5_addRow_108 ?_
            refine g_last F 1 rfl ((t_nl * 6) + c) (by omega) (by omega) (by decide) (wT cA t (va_up cx ((t_nl * 6) + c) (((way2 (a_rk r)) * (a_sa (r * 5 + c))) * (cx (((1 + c) * 6) + c)))) (va_up t_ti t_nl (if a_rk r = 2 then 2 else 1)) (t_lo) (t_hi) (t_gl) (t_sh) (((t_nc : Nat) : Int)) (((t_nl + 1 : Nat) : Int)) (t_bel) (t_far) ++ wP cA a (a_kd) (a_lo) (a_hi) (a_co) (a_pa) (a_rk) (a_nu) (a_ct) (a_sa) (((a_nc : Nat) : Int)) (((a_nr : Nat) : Int))) rfl dX5_addRow_109 ?_
            refine g_iinc F 9 rfl ([(9, iv ((((c : Nat) : Int)) + 1)), (7, jv (x + ((a_sa (r * 5 + c)) * (valZ t_lo cx t_bel c)))), (10, jv (a_sa (r * 5 + c))), (0, .ref (t 0)), (1, .ref (a 0)), (2, iv (((r : Nat) : Int))), (3, iv (q)), (4, iv (a_rk r)), (5, iv (way2 (a_rk r))), (6, iv (((t_nl * 6 : Nat) : Int)))]) rfl (by decide) dX5_addRow_110 ?_
            refine g_goto F (tgt := 45) dX5_addRow_113 (by decide) ?_
            refine g_lsub ([(0, .ref (t 0)), (1, .ref (a 0)), (2, iv (((r : Nat) : Int))), (3, iv (q)), (4, iv (a_rk r)), (5, iv (way2 (a_rk r))), (6, iv (((t_nl * 6 : Nat) : Int))), (7, jv (x + ((a_sa (r * 5 + c)) * (valZ t_lo cx t_bel c)))), (9, iv ((((c : Nat) : Int)) + 1))]) [3, 4, 5, 6, 7, 8, 9, 1, 0] rfl ?_
            exact ih45 (c + 1) (va_up cx ((t_nl * 6) + c) (((way2 (a_rk r)) * (a_sa (r * 5 + c))) * (cx (((1 + c) * 6) + c)))) (x + ((a_sa (r * 5 + c)) * (valZ t_lo cx t_bel c))) (by omega) (by rw [hcx]; exact row_up (by unfold rwG; rw [row_out (by omega)])) (by rw [hx, hcx]; show _ = -q + (sumZ _ c + _); unfold valZ; rw [row_out (by omega)]; exact Int.add_assoc _ _ _) (by omega)
      refine g_lsub ([(0, .ref (t 0)), (1, .ref (a 0)), (2, iv (((r : Nat) : Int))), (3, iv (q)), (4, iv (a_rk r)), (5, iv (way2 (a_rk r))), (6, iv (((t_nl * 6 : Nat) : Int))), (7, jv (-q)), (9, iv (0))]) [5, 6, 7, 8, 4, 3, 2, 1, 0] rfl ?_
      exact lp45 (_ + 1) 0 ((fillZ t_ce (t_nl * 6) 6 0)) (-q) (by omega) (row_0 _ _ _).symm (Int.add_zero _).symm (Nat.lt_succ_self _)
    · skip
      refine g_iconst F dX5_addRow_27 ?_
      refine g_goto F (tgt := 32) dX5_addRow_28 (by decide) ?_
      refine g_eq (st' := [iv (if a_rk r = 2 then 2 else 1), .ref (t 0)]) rfl rfl (congrArg (fun zz => [iv zz, .ref (t 0)]) (show (2 : Int) = if a_rk r = 2 then 2 else 1 from (by first | (rw [if_pos (by omega)]; done) | (rw [if_neg (by omega)]; done)))) ?_
      refine g_callV F (As := [iv (if a_rk r = 2 then 2 else 1)]) (rest := []) (wr := wP cA a (a_kd) (a_lo) (a_hi) (a_co) (a_pa) (a_rk) (a_nu) (a_ct) (a_sa) (((a_nc : Nat) : Int)) (((a_nr : Nat) : Int))) (kX5_addLine l D cA t t_ce t_ti t_lo t_hi t_gl t_sh t_nc t_nl t_bel t_far (if a_rk r = 2 then 2 else 1) (hnl) (by split <;> omega)) (cwV 1 F.2.2.2.2.1 gX5_addRow_X5_addLine rfl rfl rfl (by decide +kernel) ⟨Nat.le_of_ble_eq_true rfl, Nat.le_of_ble_eq_true rfl⟩) rfl rfl (q0 := 0) rfl [0, 1, 2, 3, 4, 5, 6] [7, 8, 9, 10, 11, 12, 13, 14, 15, 16] rfl rfl (by decide) (by decide) (by decide) rfl rfl (Nat.le_of_ble_eq_true rfl) ⟨Nat.le_of_ble_eq_true rfl, Nat.le_of_ble_eq_true rfl⟩ hA dX5_addRow_32 (fun v w hv => ?_)
      obtain ⟨hv, hw⟩ := hv
      subst hv
      subst hw
      refine g_wsub (wT cA t ((addLineT (if a_rk r = 2 then 2 else 1) (t_ce, t_ti, t_lo, t_hi, t_gl, t_sh, t_nl, t_bel, t_far)).1) ((addLineT (if a_rk r = 2 then 2 else 1) (t_ce, t_ti, t_lo, t_hi, t_gl, t_sh, t_nl, t_bel, t_far)).2.1) ((addLineT (if a_rk r = 2 then 2 else 1) (t_ce, t_ti, t_lo, t_hi, t_gl, t_sh, t_nl, t_bel, t_far)).2.2.1) ((addLineT (if a_rk r = 2 then 2 else 1) (t_ce, t_ti, t_lo, t_hi, t_gl, t_sh, t_nl, t_bel, t_far)).2.2.2.1) ((addLineT (if a_rk r = 2 then 2 else 1) (t_ce, t_ti, t_lo, t_hi, t_gl, t_sh, t_nl, t_bel, t_far)).2.2.2.2.1) ((addLineT (if a_rk r = 2 then 2 else 1) (t_ce, t_ti, t_lo, t_hi, t_gl, t_sh, t_nl, t_bel, t_far)).2.2.2.2.2.1) (((t_nc : Nat) : Int)) ((((addLineT (if a_rk r = 2 then 2 else 1) (t_ce, t_ti, t_lo, t_hi, t_gl, t_sh, t_nl, t_bel, t_far)).2.2.2.2.2.2.1 : Nat) : Int)) ((addLineT (if a_rk r = 2 then 2 else 1) (t_ce, t_ti, t_lo, t_hi, t_gl, t_sh, t_nl, t_bel, t_far)).2.2.2.2.2.2.2.1) ((addLineT (if a_rk r = 2 then 2 else 1) (t_ce, t_ti, t_lo, t_hi, t_gl, t_sh, t_nl, t_bel, t_far)).2.2.2.2.2.2.2.2) ++ wP cA a (a_kd) (a_lo) (a_hi) (a_co) (a_pa) (a_rk) (a_nu) (a_ct) (a_sa) (((a_nc : Nat) : Int)) (((a_nr : Nat) : Int))) [10, 11, 12, 13, 14, 15, 16, 0, 1, 2, 3, 4, 5, 6, 7, 8, 9] (by decide) rfl ?_
      refine g_eq (st' := [iv (((t_nl * 6 : Nat) : Int))]) rfl rfl rfl ?_
      refine g_istore F ([(6, iv (((t_nl * 6 : Nat) : Int))), (5, iv (way2 (a_rk r))), (4, iv (a_rk r)), (0, .ref (t 0)), (1, .ref (a 0)), (2, iv (((r : Nat) : Int))), (3, iv (q))]) rfl (by decide) dX5_addRow_35 ?_
      refine g_iload_n F 6 rfl rfl dX5_addRow_37 ?_
      refine g_ineg F dX5_addRow_38 ?_
      refine g_i2l F ⟨by omega, by omega⟩ dX5_addRow_39 ?_
      refine g_lstore F ([(7, jv (-q)), (6, iv (((t_nl * 6 : Nat) : Int))), (5, iv (way2 (a_rk r))), (4, iv (a_rk r)), (0, .ref (t 0)), (1, .ref (a 0)), (2, iv (((r : Nat) : Int))), (3, iv (q))]) rfl (by decide) dX5_addRow_40 ?_
      refine g_iconst F dX5_addRow_42 ?_
      refine g_istore F ([(9, iv (0)), (7, jv (-q)), (6, iv (((t_nl * 6 : Nat) : Int))), (5, iv (way2 (a_rk r))), (4, iv (a_rk r)), (0, .ref (t 0)), (1, .ref (a 0)), (2, iv (((r : Nat) : Int))), (3, iv (q))]) rfl (by decide) dX5_addRow_43 ?_
      have lp45 : ∀ (n : Nat) (c : Nat) (cx : Nat → Int) (x : Int) (hc : c ≤ t_nc) (hcx : cx = rowZ (fillZ t_ce (t_nl * 6) 6 0) (t_nl * 6) (rwG (fillZ t_ce (t_nl * 6) 6 0) a_sa r (way2 (a_rk r))) c) (hx : x = -q + sumZ (fun j => a_sa (r * 5 + j) * valZ t_lo (fillZ t_ce (t_nl * 6) 6 0) t_bel j) c), t_nc - c < n → GW p_ l e_ (headSpec wsX5_addRow ({ frames := 1, cells := 0, slots := 0, locals := 23 })).room s_ m_ ([.ref (t 0), .ref (a 0), iv (((r : Nat) : Int)), iv (q)]).toArray b_ me_ c_ (MQ b_ (Qm D (fun ov ow => ov = none ∧ ow = wTS cA t t_nc (addRowT t_nc (a_rk r) a_sa r q (t_ce, t_ti, t_lo, t_hi, t_gl, t_sh, t_nl, t_bel, t_far)) ++ wP cA a a_kd a_lo a_hi a_co a_pa a_rk a_nu a_ct a_sa (a_nc : Int) (a_nr : Int)) A) ([.ref (t 0), .ref (a 0), iv (((r : Nat) : Int)), iv (q)]).toArray s_ 0 0 A) (IM D s_ A) 12 0 0 (wT cA t (cx) (va_up t_ti t_nl (if a_rk r = 2 then 2 else 1)) (t_lo) (t_hi) (t_gl) (t_sh) (((t_nc : Nat) : Int)) (((t_nl + 1 : Nat) : Int)) (t_bel) (t_far) ++ wP cA a (a_kd) (a_lo) (a_hi) (a_co) (a_pa) (a_rk) (a_nu) (a_ct) (a_sa) (((a_nc : Nat) : Int)) (((a_nr : Nat) : Int))) ([(0, .ref (t 0)), (1, .ref (a 0)), (2, iv (((r : Nat) : Int))), (3, iv (q)), (4, iv (a_rk r)), (5, iv (way2 (a_rk r))), (6, iv (((t_nl * 6 : Nat) : Int))), (7, jv (x)), (9, iv (((c : Nat) : Int)))]) [] 45 := by
        intro n; induction n with
        | zero => intro c cx x; intros; omega
        | succ n ih45 =>
          intro c cx x hc hcx hx hmu45
          refine g_iload F 8 rfl dX5_addRow_45 ?_
          refine g_aload_n F 0 rfl rfl dX5_addRow_47 ?_
          refine g_get F hV iX5 0 rfl rfl 6 (by decide) (List.mem_of_getElem? (i := 2) rfl) rfl dX5_addRow_48 ?_
          refine g_icmp_ge F (tgt := 116) dX5_addRow_51 (by decide) ⟨by omega, by omega⟩ ⟨by omega, by omega⟩ (fun c_5 => ?_) (fun c_5 => ?_)
          · skip
            refine g_aload_n F 0 rfl rfl dX5_addRow_116 ?_
            refine g_get F hV iX5 0 rfl rfl 0 (by decide) (List.mem_of_getElem? (i := 3) rfl) rfl dX5_addRow_117 ?_
            refine g_iload F 6 rfl dX5_addRow_120 ?_
            refine g_iconst F dX5_addRow_122 ?_
            refine g_iadd F dX5_addRow_123 ?_
            refine g_iload F 5 rfl dX5_addRow_124 ?_
            refine g_i2l F ⟨by omega, by omega⟩ dX5_addRow_126 ?_
            refine g_lload F 7 rfl dX5_addRow_127 ?_
            refine g_lmul F dX5_addRow_129 ?_
            refine g_last F 1 rfl ((t_nl * 6) + 5) (by omega) (by omega) (by decide) (wT cA t (va_up cx ((t_nl * 6) + 5) ((way2 (a_rk r)) * x)) (va_up t_ti t_nl (if a_rk r = 2 then 2 else 1)) (t_lo) (t_hi) (t_gl) (t_sh) (((t_nc : Nat) : Int)) (((t_nl + 1 : Nat) : Int)) (t_bel) (t_far) ++ wP cA a (a_kd) (a_lo) (a_hi) (a_co) (a_pa) (a_rk) (a_nu) (a_ct) (a_sa) (((a_nc : Nat) : Int)) (((a_nr : Nat) : Int))) rfl dX5_addRow_130 ?_
            exact g_vret F rfl (by decide) (by decide) ⟨rfl, (by have hce : c = t_nc := (by omega); subst hce; rw [hx, hcx]; rfl)⟩ dX5_addRow_131
          · skip
            refine g_aload_n F 1 rfl rfl dX5_addRow_54 ?_
            refine g_iload_n F 2 rfl rfl dX5_addRow_55 ?_
            refine g_iload F 8 rfl dX5_addRow_56 ?_
            refine g_callRV F hV (As := [iv (((r : Nat) : Int)), iv (((c : Nat) : Int))]) (rest := []) (kX2_shareOf l D cA a a_kd a_lo a_hi a_co a_pa a_rk a_nu a_ct a_sa a_nc a_nr r c (hr) (by omega)) (cwV 2 F.2.2.2.2.1 gX5_addRow_X2_shareOf rfl rfl rfl (by decide +kernel) ⟨Nat.le_of_ble_eq_true rfl, Nat.le_of_ble_eq_true rfl⟩) rfl rfl (q0 := 0) rfl [7, 8, 9, 10, 11, 12, 13, 14, 15, 16] rfl rfl rfl (Nat.le_of_ble_eq_true rfl) ⟨Nat.le_of_ble_eq_true rfl, Nat.le_of_ble_eq_true rfl⟩ dX5_addRow_58 (fun v hv => ?_)
            subst hv
            refine g_eq (st' := [iv (a_sa (r * 5 + c))]) rfl rfl rfl ?_
            have hs := hsa (r * 5 + c)
            refine g_i2l F ⟨by omega, by omega⟩ dX5_addRow_61 ?_
            refine g_lstore F ([(10, jv (a_sa (r * 5 + c))), (0, .ref (t 0)), (1, .ref (a 0)), (2, iv (((r : Nat) : Int))), (3, iv (q)), (4, iv (a_rk r)), (5, iv (way2 (a_rk r))), (6, iv (((t_nl * 6 : Nat) : Int))), (7, jv (x)), (9, iv (((c : Nat) : Int)))]) rfl (by decide) dX5_addRow_62 ?_
            refine g_lload F 8 rfl dX5_addRow_64 ?_
            refine g_lload F 0 rfl dX5_addRow_66 ?_
            refine g_aload_n F 1 rfl rfl dX5_addRow_68 ?_
            refine g_iload F 9 rfl dX5_addRow_69 ?_
            refine g_callRV F hV (As := [iv (((c : Nat) : Int))]) (rest := [jv (a_sa (r * 5 + c)), jv (x)]) (kX5_valueAbove l D cA t cx (va_up t_ti t_nl (if a_rk r = 2 then 2 else 1)) t_lo t_hi t_gl t_sh t_nc (t_nl + 1) t_bel t_far c (by omega) (hlo)) (cwV 1 F.2.2.2.2.1 gX5_addRow_X5_valueAbove rfl rfl rfl (by decide +kernel) ⟨Nat.le_of_ble_eq_true rfl, Nat.le_of_ble_eq_true rfl⟩) rfl rfl (q0 := 0) rfl [0, 1, 2, 3, 4, 5, 6] rfl rfl rfl (Nat.le_of_ble_eq_true rfl) ⟨Nat.le_of_ble_eq_true rfl, Nat.le_of_ble_eq_true rfl⟩ dX5_addRow_71 (fun v hv => ?_)
            subst hv
            refine g_eq (st' := [jv (valZ t_lo cx t_bel c), jv (a_sa (r * 5 + c)), jv (x)]) rfl rfl rfl ?_
            refine g_lmul F dX5_addRow_74 ?_
            refine g_ladd F dX5_addRow_75 ?_
            refine g_lstore F ([(7, jv (x + ((a_sa (r * 5 + c)) * (valZ t_lo cx t_bel c)))), (10, jv (a_sa (r * 5 + c))), (0, .ref (t 0)), (1, .ref (a 0)), (2, iv (((r : Nat) : Int))), (3, iv (q)), (4, iv (a_rk r)), (5, iv (way2 (a_rk r))), (6, iv (((t_nl * 6 : Nat) : Int))), (9, iv (((c : Nat) : Int)))]) rfl (by decide) dX5_addRow_76 ?_
            refine g_aload_n F 2 rfl rfl dX5_addRow_78 ?_
            refine g_get F hV iX5 0 rfl rfl 0 (by decide) (List.mem_of_getElem? (i := 3) rfl) rfl dX5_addRow_79 ?_
            refine g_iload F 8 rfl dX5_addRow_82 ?_
            refine g_iload F 9 rfl dX5_addRow_84 ?_
            refine g_iadd F dX5_addRow_86 ?_
            refine g_iload F 7 rfl dX5_addRow_87 ?_
            refine g_i2l F ⟨by omega, by omega⟩ dX5_addRow_89 ?_
            refine g_lload F 1 rfl dX5_addRow_90 ?_
            refine g_lmul F dX5_addRow_92 ?_
            refine g_aload_n F 2 rfl rfl dX5_addRow_93 ?_
            refine g_get F hV iX5 0 rfl rfl 0 (by decide) (List.mem_of_getElem? (i := 3) rfl) rfl dX5_addRow_94 ?_
            refine g_iconst F dX5_addRow_97 ?_
            refine g_iload F 9 rfl dX5_addRow_98 ?_
            refine g_iadd F dX5_addRow_100 ?_
            refine g_bipush F dX5_addRow_101 (by decide) ?_
            refine g_imul F dX5_addRow_103 ?_
            refine g_iload F 9 rfl dX5_addRow_104 ?_
            refine g_iadd F dX5_addRow_106 ?_
            refine g_lald F hV 1 rfl (((1 + c) * 6) + c) (by omega) (by omega) (by decide) dX5_addRow_107 ?_
            refine g_lmul F dX5_addRow_108 ?_
            refine g_last F 1 rfl ((t_nl * 6) + c) (by omega) (by omega) (by decide) (wT cA t (va_up cx ((t_nl * 6) + c) (((way2 (a_rk r)) * (a_sa (r * 5 + c))) * (cx (((1 + c) * 6) + c)))) (va_up t_ti t_nl (if a_rk r = 2 then 2 else 1)) (t_lo) (t_hi) (t_gl) (t_sh) (((t_nc : Nat) : Int)) (((t_nl + 1 : Nat) : Int)) (t_bel) (t_far) ++ wP cA a (a_kd) (a_lo) (a_hi) (a_co) (a_pa) (a_rk) (a_nu) (a_ct) (a_sa) (((a_nc : Nat) : Int)) (((a_nr : Nat) : Int))) rfl dX5_addRow_109 ?_
            refine g_iinc F 9 rfl ([(9, iv ((((c : Nat) : Int)) + 1)), (7, jv (x + ((a_sa (r * 5 + c)) * (valZ t_lo cx t_bel c)))), (10, jv (a_sa (r * 5 + c))), (0, .ref (t 0)), (1, .ref (a 0)), (2, iv (((r : Nat) : Int))), (3, iv (q)), (4, iv (a_rk r)), (5, iv (way2 (a_rk r))), (6, iv (((t_nl * 6 : Nat) : Int)))]) rfl (by decide) dX5_addRow_110 ?_
            refine g_goto F (tgt := 45) dX5_addRow_113 (by decide) ?_
            refine g_lsub ([(0, .ref (t 0)), (1, .ref (a 0)), (2, iv (((r : Nat) : Int))), (3, iv (q)), (4, iv (a_rk r)), (5, iv (way2 (a_rk r))), (6, iv (((t_nl * 6 : Nat) : Int))), (7, jv (x + ((a_sa (r * 5 + c)) * (valZ t_lo cx t_bel c)))), (9, iv ((((c : Nat) : Int)) + 1))]) [3, 4, 5, 6, 7, 8, 9, 1, 0] rfl ?_
            exact ih45 (c + 1) (va_up cx ((t_nl * 6) + c) (((way2 (a_rk r)) * (a_sa (r * 5 + c))) * (cx (((1 + c) * 6) + c)))) (x + ((a_sa (r * 5 + c)) * (valZ t_lo cx t_bel c))) (by omega) (by rw [hcx]; exact row_up (by unfold rwG; rw [row_out (by omega)])) (by rw [hx, hcx]; show _ = -q + (sumZ _ c + _); unfold valZ; rw [row_out (by omega)]; exact Int.add_assoc _ _ _) (by omega)
      refine g_lsub ([(0, .ref (t 0)), (1, .ref (a 0)), (2, iv (((r : Nat) : Int))), (3, iv (q)), (4, iv (a_rk r)), (5, iv (way2 (a_rk r))), (6, iv (((t_nl * 6 : Nat) : Int))), (7, jv (-q)), (9, iv (0))]) [5, 6, 7, 8, 4, 3, 2, 1, 0] rfl ?_
      exact lp45 (_ + 1) 0 ((fillZ t_ce (t_nl * 6) 6 0)) (-q) (by omega) (row_0 _ _ _).symm (Int.add_zero _).symm (Nat.lt_succ_self _)
  · skip
    refine g_iconst F dX5_addRow_13 ?_
    refine g_goto F (tgt := 18) dX5_addRow_14 (by decide) ?_
    refine g_eq (st' := [iv (way2 (a_rk r))]) rfl rfl (congrArg (fun zz => [iv zz]) (show (-1 : Int) = way2 (a_rk r) from (by unfold way2; first | (rw [if_pos (by omega)]; done) | (rw [if_neg (by omega)]; done)))) ?_
    refine g_istore F ([(5, iv (way2 (a_rk r))), (4, iv (a_rk r)), (0, .ref (t 0)), (1, .ref (a 0)), (2, iv (((r : Nat) : Int))), (3, iv (q))]) rfl (by decide) dX5_addRow_18 ?_
    refine g_aload_n F 2 rfl rfl dX5_addRow_20 ?_
    refine g_iload F 1 rfl dX5_addRow_21 ?_
    refine g_iconst F dX5_addRow_23 ?_
    refine g_icmp_ne F (tgt := 31) dX5_addRow_24 (by decide) ⟨by omega, by omega⟩ ⟨by decide, by decide⟩ (fun c_6 => ?_) (fun c_6 => ?_)
    · skip
      refine g_iconst F dX5_addRow_31 ?_
      refine g_eq (st' := [iv (if a_rk r = 2 then 2 else 1), .ref (t 0)]) rfl rfl (congrArg (fun zz => [iv zz, .ref (t 0)]) (show (1 : Int) = if a_rk r = 2 then 2 else 1 from (by first | (rw [if_pos (by omega)]; done) | (rw [if_neg (by omega)]; done)))) ?_
      refine g_callV F (As := [iv (if a_rk r = 2 then 2 else 1)]) (rest := []) (wr := wP cA a (a_kd) (a_lo) (a_hi) (a_co) (a_pa) (a_rk) (a_nu) (a_ct) (a_sa) (((a_nc : Nat) : Int)) (((a_nr : Nat) : Int))) (kX5_addLine l D cA t t_ce t_ti t_lo t_hi t_gl t_sh t_nc t_nl t_bel t_far (if a_rk r = 2 then 2 else 1) (hnl) (by split <;> omega)) (cwV 1 F.2.2.2.2.1 gX5_addRow_X5_addLine rfl rfl rfl (by decide +kernel) ⟨Nat.le_of_ble_eq_true rfl, Nat.le_of_ble_eq_true rfl⟩) rfl rfl (q0 := 0) rfl [0, 1, 2, 3, 4, 5, 6] [7, 8, 9, 10, 11, 12, 13, 14, 15, 16] rfl rfl (by decide) (by decide) (by decide) rfl rfl (Nat.le_of_ble_eq_true rfl) ⟨Nat.le_of_ble_eq_true rfl, Nat.le_of_ble_eq_true rfl⟩ hA dX5_addRow_32 (fun v w hv => ?_)
      obtain ⟨hv, hw⟩ := hv
      subst hv
      subst hw
      refine g_wsub (wT cA t ((addLineT (if a_rk r = 2 then 2 else 1) (t_ce, t_ti, t_lo, t_hi, t_gl, t_sh, t_nl, t_bel, t_far)).1) ((addLineT (if a_rk r = 2 then 2 else 1) (t_ce, t_ti, t_lo, t_hi, t_gl, t_sh, t_nl, t_bel, t_far)).2.1) ((addLineT (if a_rk r = 2 then 2 else 1) (t_ce, t_ti, t_lo, t_hi, t_gl, t_sh, t_nl, t_bel, t_far)).2.2.1) ((addLineT (if a_rk r = 2 then 2 else 1) (t_ce, t_ti, t_lo, t_hi, t_gl, t_sh, t_nl, t_bel, t_far)).2.2.2.1) ((addLineT (if a_rk r = 2 then 2 else 1) (t_ce, t_ti, t_lo, t_hi, t_gl, t_sh, t_nl, t_bel, t_far)).2.2.2.2.1) ((addLineT (if a_rk r = 2 then 2 else 1) (t_ce, t_ti, t_lo, t_hi, t_gl, t_sh, t_nl, t_bel, t_far)).2.2.2.2.2.1) (((t_nc : Nat) : Int)) ((((addLineT (if a_rk r = 2 then 2 else 1) (t_ce, t_ti, t_lo, t_hi, t_gl, t_sh, t_nl, t_bel, t_far)).2.2.2.2.2.2.1 : Nat) : Int)) ((addLineT (if a_rk r = 2 then 2 else 1) (t_ce, t_ti, t_lo, t_hi, t_gl, t_sh, t_nl, t_bel, t_far)).2.2.2.2.2.2.2.1) ((addLineT (if a_rk r = 2 then 2 else 1) (t_ce, t_ti, t_lo, t_hi, t_gl, t_sh, t_nl, t_bel, t_far)).2.2.2.2.2.2.2.2) ++ wP cA a (a_kd) (a_lo) (a_hi) (a_co) (a_pa) (a_rk) (a_nu) (a_ct) (a_sa) (((a_nc : Nat) : Int)) (((a_nr : Nat) : Int))) [10, 11, 12, 13, 14, 15, 16, 0, 1, 2, 3, 4, 5, 6, 7, 8, 9] (by decide) rfl ?_
      refine g_eq (st' := [iv (((t_nl * 6 : Nat) : Int))]) rfl rfl rfl ?_
      refine g_istore F ([(6, iv (((t_nl * 6 : Nat) : Int))), (5, iv (way2 (a_rk r))), (4, iv (a_rk r)), (0, .ref (t 0)), (1, .ref (a 0)), (2, iv (((r : Nat) : Int))), (3, iv (q))]) rfl (by decide) dX5_addRow_35 ?_
      refine g_iload_n F 6 rfl rfl dX5_addRow_37 ?_
      refine g_ineg F dX5_addRow_38 ?_
      refine g_i2l F ⟨by omega, by omega⟩ dX5_addRow_39 ?_
      refine g_lstore F ([(7, jv (-q)), (6, iv (((t_nl * 6 : Nat) : Int))), (5, iv (way2 (a_rk r))), (4, iv (a_rk r)), (0, .ref (t 0)), (1, .ref (a 0)), (2, iv (((r : Nat) : Int))), (3, iv (q))]) rfl (by decide) dX5_addRow_40 ?_
      refine g_iconst F dX5_addRow_42 ?_
      refine g_istore F ([(9, iv (0)), (7, jv (-q)), (6, iv (((t_nl * 6 : Nat) : Int))), (5, iv (way2 (a_rk r))), (4, iv (a_rk r)), (0, .ref (t 0)), (1, .ref (a 0)), (2, iv (((r : Nat) : Int))), (3, iv (q))]) rfl (by decide) dX5_addRow_43 ?_
      have lp45 : ∀ (n : Nat) (c : Nat) (cx : Nat → Int) (x : Int) (hc : c ≤ t_nc) (hcx : cx = rowZ (fillZ t_ce (t_nl * 6) 6 0) (t_nl * 6) (rwG (fillZ t_ce (t_nl * 6) 6 0) a_sa r (way2 (a_rk r))) c) (hx : x = -q + sumZ (fun j => a_sa (r * 5 + j) * valZ t_lo (fillZ t_ce (t_nl * 6) 6 0) t_bel j) c), t_nc - c < n → GW p_ l e_ (headSpec wsX5_addRow ({ frames := 1, cells := 0, slots := 0, locals := 23 })).room s_ m_ ([.ref (t 0), .ref (a 0), iv (((r : Nat) : Int)), iv (q)]).toArray b_ me_ c_ (MQ b_ (Qm D (fun ov ow => ov = none ∧ ow = wTS cA t t_nc (addRowT t_nc (a_rk r) a_sa r q (t_ce, t_ti, t_lo, t_hi, t_gl, t_sh, t_nl, t_bel, t_far)) ++ wP cA a a_kd a_lo a_hi a_co a_pa a_rk a_nu a_ct a_sa (a_nc : Int) (a_nr : Int)) A) ([.ref (t 0), .ref (a 0), iv (((r : Nat) : Int)), iv (q)]).toArray s_ 0 0 A) (IM D s_ A) 12 0 0 (wT cA t (cx) (va_up t_ti t_nl (if a_rk r = 2 then 2 else 1)) (t_lo) (t_hi) (t_gl) (t_sh) (((t_nc : Nat) : Int)) (((t_nl + 1 : Nat) : Int)) (t_bel) (t_far) ++ wP cA a (a_kd) (a_lo) (a_hi) (a_co) (a_pa) (a_rk) (a_nu) (a_ct) (a_sa) (((a_nc : Nat) : Int)) (((a_nr : Nat) : Int))) ([(0, .ref (t 0)), (1, .ref (a 0)), (2, iv (((r : Nat) : Int))), (3, iv (q)), (4, iv (a_rk r)), (5, iv (way2 (a_rk r))), (6, iv (((t_nl * 6 : Nat) : Int))), (7, jv (x)), (9, iv (((c : Nat) : Int)))]) [] 45 := by
        intro n; induction n with
        | zero => intro c cx x; intros; omega
        | succ n ih45 =>
          intro c cx x hc hcx hx hmu45
          refine g_iload F 8 rfl dX5_addRow_45 ?_
          refine g_aload_n F 0 rfl rfl dX5_addRow_47 ?_
          refine g_get F hV iX5 0 rfl rfl 6 (by decide) (List.mem_of_getElem? (i := 2) rfl) rfl dX5_addRow_48 ?_
          refine g_icmp_ge F (tgt := 116) dX5_addRow_51 (by decide) ⟨by omega, by omega⟩ ⟨by omega, by omega⟩ (fun c_7 => ?_) (fun c_7 => ?_)
          · skip
            refine g_aload_n F 0 rfl rfl dX5_addRow_116 ?_
            refine g_get F hV iX5 0 rfl rfl 0 (by decide) (List.mem_of_getElem? (i := 3) rfl) rfl dX5_addRow_117 ?_
            refine g_iload F 6 rfl dX5_addRow_120 ?_
            refine g_iconst F dX5_addRow_122 ?_
            refine g_iadd F dX5_addRow_123 ?_
            refine g_iload F 5 rfl dX5_addRow_124 ?_
            refine g_i2l F ⟨by omega, by omega⟩ dX5_addRow_126 ?_
            refine g_lload F 7 rfl dX5_addRow_127 ?_
            refine g_lmul F dX5_addRow_129 ?_
            refine g_last F 1 rfl ((t_nl * 6) + 5) (by omega) (by omega) (by decide) (wT cA t (va_up cx ((t_nl * 6) + 5) ((way2 (a_rk r)) * x)) (va_up t_ti t_nl (if a_rk r = 2 then 2 else 1)) (t_lo) (t_hi) (t_gl) (t_sh) (((t_nc : Nat) : Int)) (((t_nl + 1 : Nat) : Int)) (t_bel) (t_far) ++ wP cA a (a_kd) (a_lo) (a_hi) (a_co) (a_pa) (a_rk) (a_nu) (a_ct) (a_sa) (((a_nc : Nat) : Int)) (((a_nr : Nat) : Int))) rfl dX5_addRow_130 ?_
            exact g_vret F rfl (by decide) (by decide) ⟨rfl, (by have hce : c = t_nc := (by omega); subst hce; rw [hx, hcx]; rfl)⟩ dX5_addRow_131
          · skip
            refine g_aload_n F 1 rfl rfl dX5_addRow_54 ?_
            refine g_iload_n F 2 rfl rfl dX5_addRow_55 ?_
            refine g_iload F 8 rfl dX5_addRow_56 ?_
            refine g_callRV F hV (As := [iv (((r : Nat) : Int)), iv (((c : Nat) : Int))]) (rest := []) (kX2_shareOf l D cA a a_kd a_lo a_hi a_co a_pa a_rk a_nu a_ct a_sa a_nc a_nr r c (hr) (by omega)) (cwV 2 F.2.2.2.2.1 gX5_addRow_X2_shareOf rfl rfl rfl (by decide +kernel) ⟨Nat.le_of_ble_eq_true rfl, Nat.le_of_ble_eq_true rfl⟩) rfl rfl (q0 := 0) rfl [7, 8, 9, 10, 11, 12, 13, 14, 15, 16] rfl rfl rfl (Nat.le_of_ble_eq_true rfl) ⟨Nat.le_of_ble_eq_true rfl, Nat.le_of_ble_eq_true rfl⟩ dX5_addRow_58 (fun v hv => ?_)
            subst hv
            refine g_eq (st' := [iv (a_sa (r * 5 + c))]) rfl rfl rfl ?_
            have hs := hsa (r * 5 + c)
            refine g_i2l F ⟨by omega, by omega⟩ dX5_addRow_61 ?_
            refine g_lstore F ([(10, jv (a_sa (r * 5 + c))), (0, .ref (t 0)), (1, .ref (a 0)), (2, iv (((r : Nat) : Int))), (3, iv (q)), (4, iv (a_rk r)), (5, iv (way2 (a_rk r))), (6, iv (((t_nl * 6 : Nat) : Int))), (7, jv (x)), (9, iv (((c : Nat) : Int)))]) rfl (by decide) dX5_addRow_62 ?_
            refine g_lload F 8 rfl dX5_addRow_64 ?_
            refine g_lload F 0 rfl dX5_addRow_66 ?_
            refine g_aload_n F 1 rfl rfl dX5_addRow_68 ?_
            refine g_iload F 9 rfl dX5_addRow_69 ?_
            refine g_callRV F hV (As := [iv (((c : Nat) : Int))]) (rest := [jv (a_sa (r * 5 + c)), jv (x)]) (kX5_valueAbove l D cA t cx (va_up t_ti t_nl (if a_rk r = 2 then 2 else 1)) t_lo t_hi t_gl t_sh t_nc (t_nl + 1) t_bel t_far c (by omega) (hlo)) (cwV 1 F.2.2.2.2.1 gX5_addRow_X5_valueAbove rfl rfl rfl (by decide +kernel) ⟨Nat.le_of_ble_eq_true rfl, Nat.le_of_ble_eq_true rfl⟩) rfl rfl (q0 := 0) rfl [0, 1, 2, 3, 4, 5, 6] rfl rfl rfl (Nat.le_of_ble_eq_true rfl) ⟨Nat.le_of_ble_eq_true rfl, Nat.le_of_ble_eq_true rfl⟩ dX5_addRow_71 (fun v hv => ?_)
            subst hv
            refine g_eq (st' := [jv (valZ t_lo cx t_bel c), jv (a_sa (r * 5 + c)), jv (x)]) rfl rfl rfl ?_
            refine g_lmul F dX5_addRow_74 ?_
            refine g_ladd F dX5_addRow_75 ?_
            refine g_lstore F ([(7, jv (x + ((a_sa (r * 5 + c)) * (valZ t_lo cx t_bel c)))), (10, jv (a_sa (r * 5 + c))), (0, .ref (t 0)), (1, .ref (a 0)), (2, iv (((r : Nat) : Int))), (3, iv (q)), (4, iv (a_rk r)), (5, iv (way2 (a_rk r))), (6, iv (((t_nl * 6 : Nat) : Int))), (9, iv (((c : Nat) : Int)))]) rfl (by decide) dX5_addRow_76 ?_
            refine g_aload_n F 2 rfl rfl dX5_addRow_78 ?_
            refine g_get F hV iX5 0 rfl rfl 0 (by decide) (List.mem_of_getElem? (i := 3) rfl) rfl dX5_addRow_79 ?_
            refine g_iload F 8 rfl dX5_addRow_82 ?_
            refine g_iload F 9 rfl dX5_addRow_84 ?_
            refine g_iadd F dX5_addRow_86 ?_
            refine g_iload F 7 rfl dX5_addRow_87 ?_
            refine g_i2l F ⟨by omega, by omega⟩ dX5_addRow_89 ?_
            refine g_lload F 1 rfl dX5_addRow_90 ?_
            refine g_lmul F dX5_addRow_92 ?_
            refine g_aload_n F 2 rfl rfl dX5_addRow_93 ?_
            refine g_get F hV iX5 0 rfl rfl 0 (by decide) (List.mem_of_getElem? (i := 3) rfl) rfl dX5_addRow_94 ?_
            refine g_iconst F dX5_addRow_97 ?_
            refine g_iload F 9 rfl dX5_addRow_98 ?_
            refine g_iadd F dX5_addRow_100 ?_
            refine g_bipush F dX5_addRow_101 (by decide) ?_
            refine g_imul F dX5_addRow_103 ?_
            refine g_iload F 9 rfl dX5_addRow_104 ?_
            refine g_iadd F dX5_addRow_106 ?_
            refine g_lald F hV 1 rfl (((1 + c) * 6) + c) (by omega) (by omega) (by decide) dX5_addRow_107 ?_
            refine g_lmul F dX5_addRow_108 ?_
            refine g_last F 1 rfl ((t_nl * 6) + c) (by omega) (by omega) (by decide) (wT cA t (va_up cx ((t_nl * 6) + c) (((way2 (a_rk r)) * (a_sa (r * 5 + c))) * (cx (((1 + c) * 6) + c)))) (va_up t_ti t_nl (if a_rk r = 2 then 2 else 1)) (t_lo) (t_hi) (t_gl) (t_sh) (((t_nc : Nat) : Int)) (((t_nl + 1 : Nat) : Int)) (t_bel) (t_far) ++ wP cA a (a_kd) (a_lo) (a_hi) (a_co) (a_pa) (a_rk) (a_nu) (a_ct) (a_sa) (((a_nc : Nat) : Int)) (((a_nr : Nat) : Int))) rfl dX5_addRow_109 ?_
            refine g_iinc F 9 rfl ([(9, iv ((((c : Nat) : Int)) + 1)), (7, jv (x + ((a_sa (r * 5 + c)) * (valZ t_lo cx t_bel c)))), (10, jv (a_sa (r * 5 + c))), (0, .ref (t 0)), (1, .ref (a 0)), (2, iv (((r : Nat) : Int))), (3, iv (q)), (4, iv (a_rk r)), (5, iv (way2 (a_rk r))), (6, iv (((t_nl * 6 : Nat) : Int)))]) rfl (by decide) dX5_addRow_110 ?_
            refine g_goto F (tgt := 45) dX5_addRow_113 (by decide) ?_
            refine g_lsub ([(0, .ref (t 0)), (1, .ref (a 0)), (2, iv (((r : Nat) : Int))), (3, iv (q)), (4, iv (a_rk r)), (5, iv (way2 (a_rk r))), (6, iv (((t_nl * 6 : Nat) : Int))), (7, jv (x + ((a_sa (r * 5 + c)) * (valZ t_lo cx t_bel c)))), (9, iv ((((c : Nat) : Int)) + 1))]) [3, 4, 5, 6, 7, 8, 9, 1, 0] rfl ?_
            exact ih45 (c + 1) (va_up cx ((t_nl * 6) + c) (((way2 (a_rk r)) * (a_sa (r * 5 + c))) * (cx (((1 + c) * 6) + c)))) (x + ((a_sa (r * 5 + c)) * (valZ t_lo cx t_bel c))) (by omega) (by rw [hcx]; exact row_up (by unfold rwG; rw [row_out (by omega)])) (by rw [hx, hcx]; show _ = -q + (sumZ _ c + _); unfold valZ; rw [row_out (by omega)]; exact Int.add_assoc _ _ _) (by omega)
      refine g_lsub ([(0, .ref (t 0)), (1, .ref (a 0)), (2, iv (((r : Nat) : Int))), (3, iv (q)), (4, iv (a_rk r)), (5, iv (way2 (a_rk r))), (6, iv (((t_nl * 6 : Nat) : Int))), (7, jv (-q)), (9, iv (0))]) [5, 6, 7, 8, 4, 3, 2, 1, 0] rfl ?_
      exact lp45 (_ + 1) 0 ((fillZ t_ce (t_nl * 6) 6 0)) (-q) (by omega) (row_0 _ _ _).symm (Int.add_zero _).symm (Nat.lt_succ_self _)
    · skip
      refine g_iconst F dX5_addRow_27 ?_
      refine g_goto F (tgt := 32) dX5_addRow_28 (by decide) ?_
      refine g_eq (st' := [iv (if a_rk r = 2 then 2 else 1), .ref (t 0)]) rfl rfl (congrArg (fun zz => [iv zz, .ref (t 0)]) (show (2 : Int) = if a_rk r = 2 then 2 else 1 from (by first | (rw [if_pos (by omega)]; done) | (rw [if_neg (by omega)]; done)))) ?_
      refine g_callV F (As := [iv (if a_rk r = 2 then 2 else 1)]) (rest := []) (wr := wP cA a (a_kd) (a_lo) (a_hi) (a_co) (a_pa) (a_rk) (a_nu) (a_ct) (a_sa) (((a_nc : Nat) : Int)) (((a_nr : Nat) : Int))) (kX5_addLine l D cA t t_ce t_ti t_lo t_hi t_gl t_sh t_nc t_nl t_bel t_far (if a_rk r = 2 then 2 else 1) (hnl) (by split <;> omega)) (cwV 1 F.2.2.2.2.1 gX5_addRow_X5_addLine rfl rfl rfl (by decide +kernel) ⟨Nat.le_of_ble_eq_true rfl, Nat.le_of_ble_eq_true rfl⟩) rfl rfl (q0 := 0) rfl [0, 1, 2, 3, 4, 5, 6] [7, 8, 9, 10, 11, 12, 13, 14, 15, 16] rfl rfl (by decide) (by decide) (by decide) rfl rfl (Nat.le_of_ble_eq_true rfl) ⟨Nat.le_of_ble_eq_true rfl, Nat.le_of_ble_eq_true rfl⟩ hA dX5_addRow_32 (fun v w hv => ?_)
      obtain ⟨hv, hw⟩ := hv
      subst hv
      subst hw
      refine g_wsub (wT cA t ((addLineT (if a_rk r = 2 then 2 else 1) (t_ce, t_ti, t_lo, t_hi, t_gl, t_sh, t_nl, t_bel, t_far)).1) ((addLineT (if a_rk r = 2 then 2 else 1) (t_ce, t_ti, t_lo, t_hi, t_gl, t_sh, t_nl, t_bel, t_far)).2.1) ((addLineT (if a_rk r = 2 then 2 else 1) (t_ce, t_ti, t_lo, t_hi, t_gl, t_sh, t_nl, t_bel, t_far)).2.2.1) ((addLineT (if a_rk r = 2 then 2 else 1) (t_ce, t_ti, t_lo, t_hi, t_gl, t_sh, t_nl, t_bel, t_far)).2.2.2.1) ((addLineT (if a_rk r = 2 then 2 else 1) (t_ce, t_ti, t_lo, t_hi, t_gl, t_sh, t_nl, t_bel, t_far)).2.2.2.2.1) ((addLineT (if a_rk r = 2 then 2 else 1) (t_ce, t_ti, t_lo, t_hi, t_gl, t_sh, t_nl, t_bel, t_far)).2.2.2.2.2.1) (((t_nc : Nat) : Int)) ((((addLineT (if a_rk r = 2 then 2 else 1) (t_ce, t_ti, t_lo, t_hi, t_gl, t_sh, t_nl, t_bel, t_far)).2.2.2.2.2.2.1 : Nat) : Int)) ((addLineT (if a_rk r = 2 then 2 else 1) (t_ce, t_ti, t_lo, t_hi, t_gl, t_sh, t_nl, t_bel, t_far)).2.2.2.2.2.2.2.1) ((addLineT (if a_rk r = 2 then 2 else 1) (t_ce, t_ti, t_lo, t_hi, t_gl, t_sh, t_nl, t_bel, t_far)).2.2.2.2.2.2.2.2) ++ wP cA a (a_kd) (a_lo) (a_hi) (a_co) (a_pa) (a_rk) (a_nu) (a_ct) (a_sa) (((a_nc : Nat) : Int)) (((a_nr : Nat) : Int))) [10, 11, 12, 13, 14, 15, 16, 0, 1, 2, 3, 4, 5, 6, 7, 8, 9] (by decide) rfl ?_
      refine g_eq (st' := [iv (((t_nl * 6 : Nat) : Int))]) rfl rfl rfl ?_
      refine g_istore F ([(6, iv (((t_nl * 6 : Nat) : Int))), (5, iv (way2 (a_rk r))), (4, iv (a_rk r)), (0, .ref (t 0)), (1, .ref (a 0)), (2, iv (((r : Nat) : Int))), (3, iv (q))]) rfl (by decide) dX5_addRow_35 ?_
      refine g_iload_n F 6 rfl rfl dX5_addRow_37 ?_
      refine g_ineg F dX5_addRow_38 ?_
      refine g_i2l F ⟨by omega, by omega⟩ dX5_addRow_39 ?_
      refine g_lstore F ([(7, jv (-q)), (6, iv (((t_nl * 6 : Nat) : Int))), (5, iv (way2 (a_rk r))), (4, iv (a_rk r)), (0, .ref (t 0)), (1, .ref (a 0)), (2, iv (((r : Nat) : Int))), (3, iv (q))]) rfl (by decide) dX5_addRow_40 ?_
      refine g_iconst F dX5_addRow_42 ?_
      refine g_istore F ([(9, iv (0)), (7, jv (-q)), (6, iv (((t_nl * 6 : Nat) : Int))), (5, iv (way2 (a_rk r))), (4, iv (a_rk r)), (0, .ref (t 0)), (1, .ref (a 0)), (2, iv (((r : Nat) : Int))), (3, iv (q))]) rfl (by decide) dX5_addRow_43 ?_
      have lp45 : ∀ (n : Nat) (c : Nat) (cx : Nat → Int) (x : Int) (hc : c ≤ t_nc) (hcx : cx = rowZ (fillZ t_ce (t_nl * 6) 6 0) (t_nl * 6) (rwG (fillZ t_ce (t_nl * 6) 6 0) a_sa r (way2 (a_rk r))) c) (hx : x = -q + sumZ (fun j => a_sa (r * 5 + j) * valZ t_lo (fillZ t_ce (t_nl * 6) 6 0) t_bel j) c), t_nc - c < n → GW p_ l e_ (headSpec wsX5_addRow ({ frames := 1, cells := 0, slots := 0, locals := 23 })).room s_ m_ ([.ref (t 0), .ref (a 0), iv (((r : Nat) : Int)), iv (q)]).toArray b_ me_ c_ (MQ b_ (Qm D (fun ov ow => ov = none ∧ ow = wTS cA t t_nc (addRowT t_nc (a_rk r) a_sa r q (t_ce, t_ti, t_lo, t_hi, t_gl, t_sh, t_nl, t_bel, t_far)) ++ wP cA a a_kd a_lo a_hi a_co a_pa a_rk a_nu a_ct a_sa (a_nc : Int) (a_nr : Int)) A) ([.ref (t 0), .ref (a 0), iv (((r : Nat) : Int)), iv (q)]).toArray s_ 0 0 A) (IM D s_ A) 12 0 0 (wT cA t (cx) (va_up t_ti t_nl (if a_rk r = 2 then 2 else 1)) (t_lo) (t_hi) (t_gl) (t_sh) (((t_nc : Nat) : Int)) (((t_nl + 1 : Nat) : Int)) (t_bel) (t_far) ++ wP cA a (a_kd) (a_lo) (a_hi) (a_co) (a_pa) (a_rk) (a_nu) (a_ct) (a_sa) (((a_nc : Nat) : Int)) (((a_nr : Nat) : Int))) ([(0, .ref (t 0)), (1, .ref (a 0)), (2, iv (((r : Nat) : Int))), (3, iv (q)), (4, iv (a_rk r)), (5, iv (way2 (a_rk r))), (6, iv (((t_nl * 6 : Nat) : Int))), (7, jv (x)), (9, iv (((c : Nat) : Int)))]) [] 45 := by
        intro n; induction n with
        | zero => intro c cx x; intros; omega
        | succ n ih45 =>
          intro c cx x hc hcx hx hmu45
          refine g_iload F 8 rfl dX5_addRow_45 ?_
          refine g_aload_n F 0 rfl rfl dX5_addRow_47 ?_
          refine g_get F hV iX5 0 rfl rfl 6 (by decide) (List.mem_of_getElem? (i := 2) rfl) rfl dX5_addRow_48 ?_
          refine g_icmp_ge F (tgt := 116) dX5_addRow_51 (by decide) ⟨by omega, by omega⟩ ⟨by omega, by omega⟩ (fun c_8 => ?_) (fun c_8 => ?_)
          · skip
            refine g_aload_n F 0 rfl rfl dX5_addRow_116 ?_
            refine g_get F hV iX5 0 rfl rfl 0 (by decide) (List.mem_of_getElem? (i := 3) rfl) rfl dX5_addRow_117 ?_
            refine g_iload F 6 rfl dX5_addRow_120 ?_
            refine g_iconst F dX5_addRow_122 ?_
            refine g_iadd F dX5_addRow_123 ?_
            refine g_iload F 5 rfl dX5_addRow_124 ?_
            refine g_i2l F ⟨by omega, by omega⟩ dX5_addRow_126 ?_
            refine g_lload F 7 rfl dX5_addRow_127 ?_
            refine g_lmul F dX5_addRow_129 ?_
            refine g_last F 1 rfl ((t_nl * 6) + 5) (by omega) (by omega) (by decide) (wT cA t (va_up cx ((t_nl * 6) + 5) ((way2 (a_rk r)) * x)) (va_up t_ti t_nl (if a_rk r = 2 then 2 else 1)) (t_lo) (t_hi) (t_gl) (t_sh) (((t_nc : Nat) : Int)) (((t_nl + 1 : Nat) : Int)) (t_bel) (t_far) ++ wP cA a (a_kd) (a_lo) (a_hi) (a_co) (a_pa) (a_rk) (a_nu) (a_ct) (a_sa) (((a_nc : Nat) : Int)) (((a_nr : Nat) : Int))) rfl dX5_addRow_130 ?_
            exact g_vret F rfl (by decide) (by decide) ⟨rfl, (by have hce : c = t_nc := (by omega); subst hce; rw [hx, hcx]; rfl)⟩ dX5_addRow_131
          · skip
            refine g_aload_n F 1 rfl rfl dX5_addRow_54 ?_
            refine g_iload_n F 2 rfl rfl dX5_addRow_55 ?_
            refine g_iload F 8 rfl dX5_addRow_56 ?_
            refine g_callRV F hV (As := [iv (((r : Nat) : Int)), iv (((c : Nat) : Int))]) (rest := []) (kX2_shareOf l D cA a a_kd a_lo a_hi a_co a_pa a_rk a_nu a_ct a_sa a_nc a_nr r c (hr) (by omega)) (cwV 2 F.2.2.2.2.1 gX5_addRow_X2_shareOf rfl rfl rfl (by decide +kernel) ⟨Nat.le_of_ble_eq_true rfl, Nat.le_of_ble_eq_true rfl⟩) rfl rfl (q0 := 0) rfl [7, 8, 9, 10, 11, 12, 13, 14, 15, 16] rfl rfl rfl (Nat.le_of_ble_eq_true rfl) ⟨Nat.le_of_ble_eq_true rfl, Nat.le_of_ble_eq_true rfl⟩ dX5_addRow_58 (fun v hv => ?_)
            subst hv
            refine g_eq (st' := [iv (a_sa (r * 5 + c))]) rfl rfl rfl ?_
            have hs := hsa (r * 5 + c)
            refine g_i2l F ⟨by omega, by omega⟩ dX5_addRow_61 ?_
            refine g_lstore F ([(10, jv (a_sa (r * 5 + c))), (0, .ref (t 0)), (1, .ref (a 0)), (2, iv (((r : Nat) : Int))), (3, iv (q)), (4, iv (a_rk r)), (5, iv (way2 (a_rk r))), (6, iv (((t_nl * 6 : Nat) : Int))), (7, jv (x)), (9, iv (((c : Nat) : Int)))]) rfl (by decide) dX5_addRow_62 ?_
            refine g_lload F 8 rfl dX5_addRow_64 ?_
            refine g_lload F 0 rfl dX5_addRow_66 ?_
            refine g_aload_n F 1 rfl rfl dX5_addRow_68 ?_
            refine g_iload F 9 rfl dX5_addRow_69 ?_
            refine g_callRV F hV (As := [iv (((c : Nat) : Int))]) (rest := [jv (a_sa (r * 5 + c)), jv (x)]) (kX5_valueAbove l D cA t cx (va_up t_ti t_nl (if a_rk r = 2 then 2 else 1)) t_lo t_hi t_gl t_sh t_nc (t_nl + 1) t_bel t_far c (by omega) (hlo)) (cwV 1 F.2.2.2.2.1 gX5_addRow_X5_valueAbove rfl rfl rfl (by decide +kernel) ⟨Nat.le_of_ble_eq_true rfl, Nat.le_of_ble_eq_true rfl⟩) rfl rfl (q0 := 0) rfl [0, 1, 2, 3, 4, 5, 6] rfl rfl rfl (Nat.le_of_ble_eq_true rfl) ⟨Nat.le_of_ble_eq_true rfl, Nat.le_of_ble_eq_true rfl⟩ dX5_addRow_71 (fun v hv => ?_)
            subst hv
            refine g_eq (st' := [jv (valZ t_lo cx t_bel c), jv (a_sa (r * 5 + c)), jv (x)]) rfl rfl rfl ?_
            refine g_lmul F dX5_addRow_74 ?_
            refine g_ladd F dX5_addRow_75 ?_
            refine g_lstore F ([(7, jv (x + ((a_sa (r * 5 + c)) * (valZ t_lo cx t_bel c)))), (10, jv (a_sa (r * 5 + c))), (0, .ref (t 0)), (1, .ref (a 0)), (2, iv (((r : Nat) : Int))), (3, iv (q)), (4, iv (a_rk r)), (5, iv (way2 (a_rk r))), (6, iv (((t_nl * 6 : Nat) : Int))), (9, iv (((c : Nat) : Int)))]) rfl (by decide) dX5_addRow_76 ?_
            refine g_aload_n F 2 rfl rfl dX5_addRow_78 ?_
            refine g_get F hV iX5 0 rfl rfl 0 (by decide) (List.mem_of_getElem? (i := 3) rfl) rfl dX5_addRow_79 ?_
            refine g_iload F 8 rfl dX5_addRow_82 ?_
            refine g_iload F 9 rfl dX5_addRow_84 ?_
            refine g_iadd F dX5_addRow_86 ?_
            refine g_iload F 7 rfl dX5_addRow_87 ?_
            refine g_i2l F ⟨by omega, by omega⟩ dX5_addRow_89 ?_
            refine g_lload F 1 rfl dX5_addRow_90 ?_
            refine g_lmul F dX5_addRow_92 ?_
            refine g_aload_n F 2 rfl rfl dX5_addRow_93 ?_
            refine g_get F hV iX5 0 rfl rfl 0 (by decide) (List.mem_of_getElem? (i := 3) rfl) rfl dX5_addRow_94 ?_
            refine g_iconst F dX5_addRow_97 ?_
            refine g_iload F 9 rfl dX5_addRow_98 ?_
            refine g_iadd F dX5_addRow_100 ?_
            refine g_bipush F dX5_addRow_101 (by decide) ?_
            refine g_imul F dX5_addRow_103 ?_
            refine g_iload F 9 rfl dX5_addRow_104 ?_
            refine g_iadd F dX5_addRow_106 ?_
            refine g_lald F hV 1 rfl (((1 + c) * 6) + c) (by omega) (by omega) (by decide) dX5_addRow_107 ?_
            refine g_lmul F dX5_addRow_108 ?_
            refine g_last F 1 rfl ((t_nl * 6) + c) (by omega) (by omega) (by decide) (wT cA t (va_up cx ((t_nl * 6) + c) (((way2 (a_rk r)) * (a_sa (r * 5 + c))) * (cx (((1 + c) * 6) + c)))) (va_up t_ti t_nl (if a_rk r = 2 then 2 else 1)) (t_lo) (t_hi) (t_gl) (t_sh) (((t_nc : Nat) : Int)) (((t_nl + 1 : Nat) : Int)) (t_bel) (t_far) ++ wP cA a (a_kd) (a_lo) (a_hi) (a_co) (a_pa) (a_rk) (a_nu) (a_ct) (a_sa) (((a_nc : Nat) : Int)) (((a_nr : Nat) : Int))) rfl dX5_addRow_109 ?_
            refine g_iinc F 9 rfl ([(9, iv ((((c : Nat) : Int)) + 1)), (7, jv (x + ((a_sa (r * 5 + c)) * (valZ t_lo cx t_bel c)))), (10, jv (a_sa (r * 5 + c))), (0, .ref (t 0)), (1, .ref (a 0)), (2, iv (((r : Nat) : Int))), (3, iv (q)), (4, iv (a_rk r)), (5, iv (way2 (a_rk r))), (6, iv (((t_nl * 6 : Nat) : Int)))]) rfl (by decide) dX5_addRow_110 ?_
            refine g_goto F (tgt := 45) dX5_addRow_113 (by decide) ?_
            refine g_lsub ([(0, .ref (t 0)), (1, .ref (a 0)), (2, iv (((r : Nat) : Int))), (3, iv (q)), (4, iv (a_rk r)), (5, iv (way2 (a_rk r))), (6, iv (((t_nl * 6 : Nat) : Int))), (7, jv (x + ((a_sa (r * 5 + c)) * (valZ t_lo cx t_bel c)))), (9, iv ((((c : Nat) : Int)) + 1))]) [3, 4, 5, 6, 7, 8, 9, 1, 0] rfl ?_
            exact ih45 (c + 1) (va_up cx ((t_nl * 6) + c) (((way2 (a_rk r)) * (a_sa (r * 5 + c))) * (cx (((1 + c) * 6) + c)))) (x + ((a_sa (r * 5 + c)) * (valZ t_lo cx t_bel c))) (by omega) (by rw [hcx]; exact row_up (by unfold rwG; rw [row_out (by omega)])) (by rw [hx, hcx]; show _ = -q + (sumZ _ c + _); unfold valZ; rw [row_out (by omega)]; exact Int.add_assoc _ _ _) (by omega)
      refine g_lsub ([(0, .ref (t 0)), (1, .ref (a 0)), (2, iv (((r : Nat) : Int))), (3, iv (q)), (4, iv (a_rk r)), (5, iv (way2 (a_rk r))), (6, iv (((t_nl * 6 : Nat) : Int))), (7, jv (-q)), (9, iv (0))]) [5, 6, 7, 8, 4, 3, 2, 1, 0] rfl ?_
      exact lp45 (_ + 1) 0 ((fillZ t_ce (t_nl * 6) 6 0)) (-q) (by omega) (row_0 _ _ _).symm (Int.add_zero _).symm (Nat.lt_succ_self _)
