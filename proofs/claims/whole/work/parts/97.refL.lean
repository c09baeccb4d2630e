theorem gcd_stop {x y : Nat} {a b : Int} (h : Nat.gcd x y = Int.gcd a b) (h0 : y = 0) : x = Int.gcd a b := by
  subst h0; rw [Nat.gcd_zero_right] at h; exact h
set_option maxHeartbeats 4000000 in
set_option maxRecDepth 100000 in
theorem kX7_common (l : Launch) (D : va_G) (cA : Nat → ClassId) (a : Int) (b : Int) (ha : -9223372036854775808 < a ∧ a ≤ 9223372036854775807) (hb : 0 ≤ b ∧ b ≤ 9223372036854775807) : CR l yX7_common wsX7_common ({ frames := 0, cells := 0, slots := 0, locals := 0 }) D cA [jv (a), jv (b)] ([]) (fun ov => ov = some (jv (((Int.gcd a b : Nat) : Int)))) := by
  refine CR.mk (cc := cX7_common) (maxL := 10) (ret := (some .long)) (by decide +kernel) rfl (Nat.le_of_ble_eq_true rfl) ?_
  intro p_ e_ s_ m_ b_ me_ c_ F
  have hV := @IR_P D s_
  refine g_lsub ([(0, jv (a)), (2, jv (b))]) [0, 1] rfl ?_
  refine g_lload_n F 0 rfl rfl dX7_common_0 ?_
  refine g_lconst F (z := 0) dX7_common_1 (by decide) ?_
  refine g_lcmp_ge F (tgt := 11) dX7_common_2 dX7_common_3 (by decide) ⟨by omega, by omega⟩ ⟨by decide, by decide⟩ (fun c_1 => ?_) (fun c_1 => ?_)
  · skip
    refine g_lload_n F 0 rfl rfl dX7_common_11 ?_
    refine g_eq (st' := [jv (((a.natAbs : Nat) : Int))]) rfl rfl (congrArg (fun zz => [jv zz]) (show (a : Int) = ((a.natAbs : Nat) : Int) from (by omega))) ?_
    refine g_lstore F ([(4, jv (((a.natAbs : Nat) : Int))), (0, jv (a)), (2, jv (b))]) rfl (by decide) dX7_common_12 ?_
    refine g_lload_n F 2 rfl rfl dX7_common_14 ?_
    refine g_eq (st' := [jv (((b.natAbs : Nat) : Int))]) rfl rfl (congrArg (fun zz => [jv zz]) (show (b : Int) = ((b.natAbs : Nat) : Int) from (by omega))) ?_
    refine g_lstore F ([(6, jv (((b.natAbs : Nat) : Int))), (4, jv (((a.natAbs : Nat) : Int))), (0, jv (a)), (2, jv (b))]) rfl (by decide) dX7_common_15 ?_
    have lp17 : ∀ (n : Nat) (X : Nat) (Y : Nat) (hg : Nat.gcd X Y = Int.gcd a b) (hX : X ≤ 9223372036854775807) (hY : Y ≤ 9223372036854775807), Y < n → GW p_ l e_ (headSpec wsX7_common ({ frames := 0, cells := 0, slots := 0, locals := 0 })).room s_ m_ ([jv (a), jv (b)]).toArray b_ me_ c_ (MQ b_ (Qr (fun ov => ov = some (jv (((Int.gcd a b : Nat) : Int))))) ([jv (a), jv (b)]).toArray s_ 0 0 (fun _ => False)) (IR D s_) 10 0 0 ([]) ([(0, jv (a)), (2, jv (b)), (4, jv (((X : Nat) : Int))), (6, jv (((Y : Nat) : Int)))]) [] 17 := by
      intro n; induction n with
      | zero => intro X Y; intros; omega
      | succ n ih17 =>
        intro X Y hg hX hY hmu17
        refine g_lload F 3 rfl dX7_common_17 ?_
        refine g_lconst F (z := 0) dX7_common_19 (by decide) ?_
        refine g_lcmp_eq F (tgt := 42) dX7_common_20 dX7_common_21 (by decide) ⟨by omega, by omega⟩ ⟨by decide, by decide⟩ (fun c_2 => ?_) (fun c_2 => ?_)
        · skip
          refine g_lload F 2 rfl dX7_common_42 ?_
          exact g_lretR F rfl (congrArg (fun z => some (jv z)) (show (((X : Nat) : Int) : Int) = ((Int.gcd a b : Nat) : Int) by exact congrArg (fun z : Nat => (z : Int)) (gcd_stop hg (by omega)))) dX7_common_44
        · skip
          refine g_lload F 2 rfl dX7_common_24 ?_
          refine g_lload F 3 rfl dX7_common_26 ?_
          refine g_lrem F ⟨⟨by omega, by omega⟩, by omega⟩ ⟨by omega, by omega⟩ (by omega) dX7_common_28 ?_
          refine g_lstore F ([(8, jv (Int.tmod (((X : Nat) : Int)) (((Y : Nat) : Int)))), (0, jv (a)), (2, jv (b)), (4, jv (((X : Nat) : Int))), (6, jv (((Y : Nat) : Int)))]) rfl (by decide) dX7_common_29 ?_
          refine g_lload F 4 rfl dX7_common_31 ?_
          refine g_lstore F ([(4, jv (((Y : Nat) : Int))), (8, jv (Int.tmod (((X : Nat) : Int)) (((Y : Nat) : Int)))), (0, jv (a)), (2, jv (b)), (6, jv (((Y : Nat) : Int)))]) rfl (by decide) dX7_common_33 ?_
          refine g_lload F 1 rfl dX7_common_35 ?_
          refine g_lstore F ([(6, jv (Int.tmod (((X : Nat) : Int)) (((Y : Nat) : Int)))), (4, jv (((Y : Nat) : Int))), (8, jv (Int.tmod (((X : Nat) : Int)) (((Y : Nat) : Int)))), (0, jv (a)), (2, jv (b))]) rfl (by decide) dX7_common_37 ?_
          refine g_goto F (tgt := 17) dX7_common_39 (by decide) ?_
          refine g_lsub ([(0, jv (a)), (2, jv (b)), (4, jv (((Y : Nat) : Int))), (6, jv (Int.tmod (((X : Nat) : Int)) (((Y : Nat) : Int))))]) [3, 4, 1, 0] rfl ?_
          exact ih17 Y (X % Y) (gcd_step hg) (hY) (Nat.le_trans (Nat.mod_le X Y) hX) (by have := Nat.mod_lt X (show 0 < Y by omega); omega)
    refine g_lsub ([(0, jv (a)), (2, jv (b)), (4, jv (((a.natAbs : Nat) : Int))), (6, jv (((b.natAbs : Nat) : Int)))]) [2, 3, 1, 0] rfl ?_
    exact lp17 (_ + 1) a.natAbs b.natAbs (rfl) (by omega) (by omega) (Nat.lt_succ_self _)
  · skip
    refine g_lload_n F 0 rfl rfl dX7_common_6 ?_
    refine g_lneg F dX7_common_7 ?_
    refine g_goto F (tgt := 12) dX7_common_8 (by decide) ?_
    refine g_eq (st' := [jv (((a.natAbs : Nat) : Int))]) rfl rfl (congrArg (fun zz => [jv zz]) (show (-a : Int) = ((a.natAbs : Nat) : Int) from (by omega))) ?_
    refine g_lstore F ([(4, jv (((a.natAbs : Nat) : Int))), (0, jv (a)), (2, jv (b))]) rfl (by decide) dX7_common_12 ?_
    refine g_lload_n F 2 rfl rfl dX7_common_14 ?_
    refine g_eq (st' := [jv (((b.natAbs : Nat) : Int))]) rfl rfl (congrArg (fun zz => [jv zz]) (show (b : Int) = ((b.natAbs : Nat) : Int) from (by omega))) ?_
    refine g_lstore F ([(6, jv (((b.natAbs : Nat) : Int))), (4, jv (((a.natAbs : Nat) : Int))), (0, jv (a)), (2, jv (b))]) rfl (by decide) dX7_common_15 ?_
    have lp17 : ∀ (n : Nat) (X : Nat) (Y : Nat) (hg : Nat.gcd X Y = Int.gcd a b) (hX : X ≤ 9223372036854775807) (hY : Y ≤ 9223372036854775807), Y < n → GW p_ l e_ (headSpec wsX7_common ({ frames := 0, cells := 0, slots := 0, locals := 0 })).room s_ m_ ([jv (a), jv (b)]).toArray b_ me_ c_ (MQ b_ (Qr (fun ov => ov = some (jv (((Int.gcd a b : Nat) : Int))))) ([jv (a), jv (b)]).toArray s_ 0 0 (fun _ => False)) (IR D s_) 10 0 0 ([]) ([(0, jv (a)), (2, jv (b)), (4, jv (((X : Nat) : Int))), (6, jv (((Y : Nat) : Int)))]) [] 17 := by
      intro n; induction n with
      | zero => intro X Y; intros; omega
      | succ n ih17 =>
        intro X Y hg hX hY hmu17
        refine g_lload F 3 rfl dX7_common_17 ?_
        refine g_lconst F (z := 0) dX7_common_19 (by decide) ?_
        refine g_lcmp_eq F (tgt := 42) dX7_common_20 dX7_common_21 (by decide) ⟨by omega, by omega⟩ ⟨by decide, by decide⟩ (fun c_3 => ?_) (fun c_3 => ?_)
        · skip
          refine g_lload F 2 rfl dX7_common_42 ?_
          exact g_lretR F rfl (congrArg (fun z => some (jv z)) (show (((X : Nat) : Int) : Int) = ((Int.gcd a b : Nat) : Int) by exact congrArg (fun z : Nat => (z : Int)) (gcd_stop hg (by omega)))) dX7_common_44
        · skip
          refine g_lload F 2 rfl dX7_common_24 ?_
          refine g_lload F 3 rfl dX7_common_26 ?_
          refine g_lrem F ⟨⟨by omega, by omega⟩, by omega⟩ ⟨by omega, by omega⟩ (by omega) dX7_common_28 ?_
          refine g_lstore F ([(8, jv (Int.tmod (((X : Nat) : Int)) (((Y : Nat) : Int)))), (0, jv (a)), (2, jv (b)), (4, jv (((X : Nat) : Int))), (6, jv (((Y : Nat) : Int)))]) rfl (by decide) dX7_common_29 ?_
          refine g_lload F 4 rfl dX7_common_31 ?_
          refine g_lstore F ([(4, jv (((Y : Nat) : Int))), (8, jv (Int.tmod (((X : Nat) : Int)) (((Y : Nat) : Int)))), (0, jv (a)), (2, jv (b)), (6, jv (((Y : Nat) : Int)))]) rfl (by decide) dX7_common_33 ?_
          refine g_lload F 1 rfl dX7_common_35 ?_
          refine g_lstore F ([(6, jv (Int.tmod (((X : Nat) : Int)) (((Y : Nat) : Int)))), (4, jv (((Y : Nat) : Int))), (8, jv (Int.tmod (((X : Nat) : Int)) (((Y : Nat) : Int)))), (0, jv (a)), (2, jv (b))]) rfl (by decide) dX7_common_37 ?_
          refine g_goto F (tgt := 17) dX7_common_39 (by decide) ?_
          refine g_lsub ([(0, jv (a)), (2, jv (b)), (4, jv (((Y : Nat) : Int))), (6, jv (Int.tmod (((X : Nat) : Int)) (((Y : Nat) : Int))))]) [3, 4, 1, 0] rfl ?_
          exact ih17 Y (X % Y) (gcd_step hg) (hY) (Nat.le_trans (Nat.mod_le X Y) hX) (by have := Nat.mod_lt X (show 0 < Y by omega); omega)
    refine g_lsub ([(0, jv (a)), (2, jv (b)), (4, jv (((a.natAbs : Nat) : Int))), (6, jv (((b.natAbs : Nat) : Int)))]) [2, 3, 1, 0] rfl ?_
    exact lp17 (_ + 1) a.natAbs b.natAbs (rfl) (by omega) (by omega) (Nat.lt_succ_self _)

set_option maxHeartbeats 4000000 in
set_option maxRecDepth 100000 in
theorem kX7_part (l : Launch) (D : va_G) (cA : Nat → ClassId) (a : Int) (b : Int) (q : Int) (ha : -9223372036854775808 < a ∧ a ≤ 9223372036854775807) (hb : 0 < b ∧ b ≤ 9223372036854775807) (hq : q = 0 ∨ q = 1) : CR l yX7_part wsX7_part ({ frames := 1, cells := 0, slots := 0, locals := 29 }) D cA [jv (a), jv (b), iv (q)] ([]) (fun ov => ov = some (jv (lowZ a b q))) := by
  refine CR.mk (cc := cX7_part) (maxL := 7) (ret := (some .long)) (by decide +kernel) rfl (Nat.le_of_ble_eq_true rfl) ?_
  intro p_ e_ s_ m_ b_ me_ c_ F
  have hV := @IR_P D s_
  have hgp := gcd_pos_of a (show b ≠ 0 by omega)
  have hgl := gcd_le_of a (show 0 < b by omega)
  refine g_lsub ([(0, jv (a)), (2, jv (b)), (4, iv (q))]) [0, 1, 2] rfl ?_
  refine g_lload_n F 0 rfl rfl dX7_part_0 ?_
  refine g_lload_n F 1 rfl rfl dX7_part_1 ?_
  refine g_callRS F hV (As := [jv (a), jv (b)]) (rest := []) (kX7_common l D cA a b (by omega) (by omega)) (va_cwS 2 F.2.2.2.2.1 gX7_part_X7_common rfl rfl rfl (by decide +kernel) ⟨Nat.le_of_ble_eq_true rfl, Nat.le_of_ble_eq_true rfl⟩) [] rfl rfl rfl (Nat.le_of_ble_eq_true rfl) ⟨Nat.le_of_ble_eq_true rfl, Nat.le_of_ble_eq_true rfl⟩ dX7_part_2 (fun v hv => ?_)
  subst hv
  refine g_eq (st' := [jv (((Int.gcd a b : Nat) : Int))]) rfl rfl rfl ?_
  refine g_lstore F ([(5, jv (((Int.gcd a b : Nat) : Int))), (0, jv (a)), (2, jv (b)), (4, iv (q))]) rfl (by decide) dX7_part_5 ?_
  refine g_iload F 3 rfl dX7_part_7 ?_
  refine g_if_ne F (tgt := 16) dX7_part_9 (by decide) ⟨by omega, by omega⟩ (fun c_1 => ?_) (fun c_1 => ?_)
  · skip
    refine g_lload_n F 2 rfl rfl dX7_part_16 ?_
    refine g_lload F 0 rfl dX7_part_17 ?_
    refine g_ldiv F ⟨by omega, by omega⟩ ⟨by omega, by omega⟩ (by omega) (tdiv_64 ⟨by omega, by omega⟩ (by omega) (by omega)) dX7_part_19 ?_
    exact g_lretR F rfl (congrArg (fun z => some (jv z)) (show (Int.tdiv b (((Int.gcd a b : Nat) : Int)) : Int) = lowZ a b q by unfold lowZ; rw [if_neg (by omega)]; first | (rw [if_pos (by omega)]) | (rw [if_neg (by omega)]))) dX7_part_20
  · skip
    refine g_lload_n F 1 rfl rfl dX7_part_12 ?_
    refine g_goto F (tgt := 17) dX7_part_13 (by decide) ?_
    refine g_lload F 0 rfl dX7_part_17 ?_
    refine g_ldiv F ⟨by omega, by omega⟩ ⟨by omega, by omega⟩ (by omega) (tdiv_64 ⟨by omega, by omega⟩ (by omega) (by omega)) dX7_part_19 ?_
    exact g_lretR F rfl (congrArg (fun z => some (jv z)) (show (Int.tdiv a (((Int.gcd a b : Nat) : Int)) : Int) = lowZ a b q by unfold lowZ; rw [if_neg (by omega)]; first | (rw [if_pos (by omega)]) | (rw [if_neg (by omega)]))) dX7_part_20

set_option maxHeartbeats 4000000 in
set_option maxRecDepth 100000 in
theorem kX7_least (l : Launch) (D : va_G) (cA : Nat → ClassId) (m : Nat → Nat) (m_nc : Nat) (m_nr : Nat) (m_ke : Int) (m_so : Int) (m_bu : Int) (m_bc : Int) (m_pu : Int) (m_qu : Int) (m_fs : Int) (m_cd : Int) (m_un : Int) (m_hb : Int) (m_pf : Int) (m_ef : Int) (v : Int) (hv : -2147483648 ≤ v ∧ v ≤ 2147483647) (hbu : 0 < m_bu ∧ m_bu ≤ 8000000) (hbc : -200000000000 ≤ m_bc ∧ m_bc ≤ 200000000000) (hke : -1 ≤ m_ke ∧ m_ke ≤ 2) : CR l yX7_least wsX7_least ({ frames := 2, cells := 0, slots := 0, locals := 55 }) D cA [.ref (m 0), iv (v)] (wMO cA m (((m_nc : Nat) : Int)) (((m_nr : Nat) : Int)) (m_ke) (m_so) (m_bu) (m_bc) (m_pu) (m_qu) (m_fs) (m_cd) (m_un) (m_hb) (m_pf) (m_ef)) (fun ov => ov = some (jv (if v = 0 ∨ v = 1 then (if m_ke = 0 then lowZ m_bc m_bu v else -2000000002) else -2000000001))) := by
  refine CR.mk (cc := cX7_least) (maxL := 2) (ret := (some .long)) (by decide +kernel) rfl (Nat.le_of_ble_eq_true rfl) ?_
  intro p_ e_ s_ m_ b_ me_ c_ F
  have hV := @IR_P D s_
  have iX7 : ∀ w ∈ u_ws RX7 TX7 38, w ∈ wsX7_least := by decide +kernel
  refine g_lsub ([(0, .ref (m 0)), (1, iv (v))]) [0, 1] rfl ?_
  refine g_iload_n F 1 rfl rfl dX7_least_0 ?_
  refine g_iconst F dX7_least_1 ?_
  refine g_iconst F dX7_least_2 ?_
  refine g_callRS F hV (As := [iv (v), iv (0), iv (1)]) (rest := []) (kX7_isIn l D cA v 0 1 (by omega) (by omega) (by omega)) (va_cwS 3 F.2.2.2.2.1 gX7_least_X7_isIn rfl rfl rfl (by decide +kernel) ⟨Nat.le_of_ble_eq_true rfl, Nat.le_of_ble_eq_true rfl⟩) [] rfl rfl rfl (Nat.le_of_ble_eq_true rfl) ⟨Nat.le_of_ble_eq_true rfl, Nat.le_of_ble_eq_true rfl⟩ dX7_least_3 (fun v hv => ?_)
  subst hv
  refine g_eq (st' := [iv (if 0 ≤ v ∧ v ≤ 1 then 1 else 0)]) rfl rfl rfl ?_
  refine g_ifb_ne F (tgt := 13) dX7_least_6 (by decide) (fun c_1 => ?_) (fun c_1 => ?_)
  · skip
    refine g_aload_n F 0 rfl rfl dX7_least_13 ?_
    refine g_get F hV iX7 0 rfl rfl 11 (by decide) (List.mem_of_getElem? (i := 2) rfl) rfl dX7_least_14 ?_
    refine g_if_eq F (tgt := 26) dX7_least_17 (by decide) ⟨by omega, by omega⟩ (fun c_2 => ?_) (fun c_2 => ?_)
    · skip
      refine g_aload_n F 0 rfl rfl dX7_least_26 ?_
      refine g_get F hV iX7 0 rfl rfl 15 (by decide) (List.mem_of_getElem? (i := 4) rfl) rfl dX7_least_27 ?_
      refine g_aload_n F 0 rfl rfl dX7_least_30 ?_
      refine g_get F hV iX7 0 rfl rfl 14 (by decide) (List.mem_of_getElem? (i := 5) rfl) rfl dX7_least_31 ?_
      refine g_iload_n F 1 rfl rfl dX7_least_34 ?_
      refine g_callRS F hV (As := [jv (m_bc), jv (m_bu), iv (v)]) (rest := []) (kX7_part l D cA m_bc m_bu v (by omega) (by omega) (by omega)) (va_cwS 3 F.2.2.2.2.1 gX7_least_X7_part rfl rfl rfl (by decide +kernel) ⟨Nat.le_of_ble_eq_true rfl, Nat.le_of_ble_eq_true rfl⟩) [] rfl rfl rfl (Nat.le_of_ble_eq_true rfl) ⟨Nat.le_of_ble_eq_true rfl, Nat.le_of_ble_eq_true rfl⟩ dX7_least_35 (fun v hv => ?_)
      subst hv
      refine g_eq (st' := [jv (lowZ m_bc m_bu v)]) rfl rfl rfl ?_
      exact g_lretR F rfl (congrArg (fun z => some (jv z)) (show (lowZ m_bc m_bu v : Int) = if v = 0 ∨ v = 1 then (if m_ke = 0 then lowZ m_bc m_bu v else -2000000002) else -2000000001 by (try simp only [Int.toNat_natCast]); first | (rw [if_neg (by omega)]; done) | (rw [if_pos (by omega), if_pos (by omega)]; done) | (rw [if_pos (by omega), if_neg (by omega)]; done))) dX7_least_38
    · skip
      refine g_ldc2 F (-2000000002) (by decide) (List.mem_of_getElem? (i := 3) rfl) dX7_least_20 ?_
      refine g_goto F (tgt := 38) dX7_least_23 (by decide) ?_
      exact g_lretR F rfl (congrArg (fun z => some (jv z)) (show (-2000000002 : Int) = if v = 0 ∨ v = 1 then (if m_ke = 0 then lowZ m_bc m_bu v else -2000000002) else -2000000001 by (try simp only [Int.toNat_natCast]); first | (rw [if_neg (by omega)]; done) | (rw [if_pos (by omega), if_pos (by omega)]; done) | (rw [if_pos (by omega), if_neg (by omega)]; done))) dX7_least_38
  · skip
    refine g_ldc2 F (-2000000001) (by decide) (List.mem_of_getElem? (i := 1) rfl) dX7_least_9 ?_
    exact g_lretR F rfl (congrArg (fun z => some (jv z)) (show (-2000000001 : Int) = if v = 0 ∨ v = 1 then (if m_ke = 0 then lowZ m_bc m_bu v else -2000000002) else -2000000001 by (try simp only [Int.toNat_natCast]); first | (rw [if_neg (by omega)]; done) | (rw [if_pos (by omega), if_pos (by omega)]; done) | (rw [if_pos (by omega), if_neg (by omega)]; done))) dX7_least_12

set_option maxHeartbeats 4000000 in
set_option maxRecDepth 100000 in
theorem kX7_value (l : Launch) (D : va_G) (cA : Nat → ClassId) (m : Nat → Nat) (m_nc : Nat) (m_nr : Nat) (m_ke : Int) (m_so : Int) (m_bu : Int) (m_bc : Int) (m_pu : Int) (m_qu : Int) (m_fs : Int) (m_cd : Int) (m_un : Int) (m_hb : Int) (m_pf : Int) (m_ef : Int) (m_be : Nat → Int) (m_tr : Nat → Int) (m_wy : Nat → Int) (c : Int) (v : Int) (hc : -2147483648 ≤ c ∧ c ≤ 2147483647) (hv : -2147483648 ≤ v ∧ v ≤ 2147483647) (qnc : m_nc ≤ 5) (hbu : 0 < m_bu ∧ m_bu ≤ 8000000) (hbe : ∀ j, -200000000000 ≤ m_be j ∧ m_be j ≤ 200000000000) (hke : -1 ≤ m_ke ∧ m_ke ≤ 2) : CR l yX7_value wsX7_value ({ frames := 2, cells := 0, slots := 0, locals := 55 }) D cA [.ref (m 0), iv (c), iv (v)] (wMO cA m (((m_nc : Nat) : Int)) (((m_nr : Nat) : Int)) (m_ke) (m_so) (m_bu) (m_bc) (m_pu) (m_qu) (m_fs) (m_cd) (m_un) (m_hb) (m_pf) (m_ef) ++ wMB cA m (m_be) (m_tr) (m_wy)) (fun ov => ov = some (jv (if (0 ≤ c ∧ c < (m_nc : Int)) ∧ (v = 0 ∨ v = 1) then (if m_ke = 0 then lowZ (m_be c.toNat) m_bu v else -2000000002) else -2000000001))) := by
  refine CR.mk (cc := cX7_value) (maxL := 3) (ret := (some .long)) (by decide +kernel) rfl (Nat.le_of_ble_eq_true rfl) ?_
  intro p_ e_ s_ m_ b_ me_ c_ F
  have hV := @IR_P D s_
  have iX7 : ∀ w ∈ u_ws RX7 TX7 38, w ∈ wsX7_value := by decide +kernel
  refine g_lsub ([(0, .ref (m 0)), (1, iv (c)), (2, iv (v))]) [0, 1, 2] rfl ?_
  refine g_aload_n F 0 rfl rfl dX7_value_0 ?_
  refine g_iload_n F 1 rfl rfl dX7_value_1 ?_
  refine g_callRV F hV (As := [iv (c)]) (rest := []) (kX7_isColumn l D cA m m_nc m_nr m_ke m_so m_bu m_bc m_pu m_qu m_fs m_cd m_un m_hb m_pf m_ef c (by omega) (qnc)) (cwV 1 F.2.2.2.2.1 gX7_value_X7_isColumn rfl rfl rfl (by decide +kernel) ⟨Nat.le_of_ble_eq_true rfl, Nat.le_of_ble_eq_true rfl⟩) rfl rfl (q0 := 0) rfl [0] rfl rfl rfl (Nat.le_of_ble_eq_true rfl) ⟨Nat.le_of_ble_eq_true rfl, Nat.le_of_ble_eq_true rfl⟩ dX7_value_2 (fun v hv => ?_)
  subst hv
  refine g_eq (st' := [iv (if 0 ≤ c ∧ c < (m_nc : Int) then 1 else 0)]) rfl rfl rfl ?_
  refine g_ifb_eq F (tgt := 17) dX7_value_5 (by decide) (fun c_1 => ?_) (fun c_1 => ?_)
  · skip
    refine g_ldc2 F (-2000000001) (by decide) (List.mem_of_getElem? (i := 1) rfl) dX7_value_17 ?_
    exact g_lretR F rfl (congrArg (fun z => some (jv z)) (show (-2000000001 : Int) = if (0 ≤ c ∧ c < (m_nc : Int)) ∧ (v = 0 ∨ v = 1) then (if m_ke = 0 then lowZ (m_be c.toNat) m_bu v else -2000000002) else -2000000001 by (try simp only [Int.toNat_natCast]); first | (rw [if_neg (by omega)]; done) | (rw [if_pos (by omega), if_pos (by omega)]; done) | (rw [if_pos (by omega), if_neg (by omega)]; done))) dX7_value_20
  · skip
    obtain ⟨cn, hcn⟩ : ∃ y : Nat, c = (y : Int) := ⟨c.toNat, by omega⟩
    subst hcn
    refine g_iload_n F 2 rfl rfl dX7_value_8 ?_
    refine g_iconst F dX7_value_9 ?_
    refine g_iconst F dX7_value_10 ?_
    refine g_callRS F hV (As := [iv (v), iv (0), iv (1)]) (rest := []) (kX7_isIn l D cA v 0 1 (by omega) (by omega) (by omega)) (va_cwS 3 F.2.2.2.2.1 gX7_value_X7_isIn rfl rfl rfl (by decide +kernel) ⟨Nat.le_of_ble_eq_true rfl, Nat.le_of_ble_eq_true rfl⟩) [] rfl rfl rfl (Nat.le_of_ble_eq_true rfl) ⟨Nat.le_of_ble_eq_true rfl, Nat.le_of_ble_eq_true rfl⟩ dX7_value_11 (fun v hv => ?_)
    subst hv
    refine g_eq (st' := [iv (if 0 ≤ v ∧ v ≤ 1 then 1 else 0)]) rfl rfl rfl ?_
    refine g_ifb_ne F (tgt := 21) dX7_value_14 (by decide) (fun c_2 => ?_) (fun c_2 => ?_)
    · skip
      refine g_aload_n F 0 rfl rfl dX7_value_21 ?_
      refine g_get F hV iX7 0 rfl rfl 11 (by decide) (List.mem_of_getElem? (i := 2) rfl) rfl dX7_value_22 ?_
      refine g_if_eq F (tgt := 34) dX7_value_25 (by decide) ⟨by omega, by omega⟩ (fun c_3 => ?_) (fun c_3 => ?_)
      · skip
        refine g_aload_n F 0 rfl rfl dX7_value_34 ?_
        refine g_get F hV iX7 0 rfl rfl 13 (by decide) (List.mem_of_getElem? (i := 4) rfl) rfl dX7_value_35 ?_
        refine g_iload_n F 1 rfl rfl dX7_value_38 ?_
        have r_4 := hbe (cn)
        refine g_lald F hV 1 rfl (cn) (by omega) (by omega) (by decide) dX7_value_39 ?_
        refine g_aload_n F 0 rfl rfl dX7_value_40 ?_
        refine g_get F hV iX7 0 rfl rfl 14 (by decide) (List.mem_of_getElem? (i := 5) rfl) rfl dX7_value_41 ?_
        refine g_iload_n F 2 rfl rfl dX7_value_44 ?_
        refine g_callRS F hV (As := [jv (m_be cn), jv (m_bu), iv (v)]) (rest := []) (kX7_part l D cA (m_be cn) m_bu v (by omega) (by omega) (by omega)) (va_cwS 3 F.2.2.2.2.1 gX7_value_X7_part rfl rfl rfl (by decide +kernel) ⟨Nat.le_of_ble_eq_true rfl, Nat.le_of_ble_eq_true rfl⟩) [] rfl rfl rfl (Nat.le_of_ble_eq_true rfl) ⟨Nat.le_of_ble_eq_true rfl, Nat.le_of_ble_eq_true rfl⟩ dX7_value_45 (fun v hv => ?_)
        subst hv
        refine g_eq (st' := [jv (lowZ (m_be cn) m_bu v)]) rfl rfl rfl ?_
        exact g_lretR F rfl (congrArg (fun z => some (jv z)) (show (lowZ (m_be cn) m_bu v : Int) = if (0 ≤ ((cn : Nat) : Int) ∧ ((cn : Nat) : Int) < (m_nc : Int)) ∧ (v = 0 ∨ v = 1) then (if m_ke = 0 then lowZ (m_be ((cn : Nat) : Int).toNat) m_bu v else -2000000002) else -2000000001 by (try simp only [Int.toNat_natCast]); first | (rw [if_neg (by omega)]; done) | (rw [if_pos (by omega), if_pos (by omega)]; done) | (rw [if_pos (by omega), if_neg (by omega)]; done))) dX7_value_48
      · skip
        refine g_ldc2 F (-2000000002) (by decide) (List.mem_of_getElem? (i := 3) rfl) dX7_value_28 ?_
        refine g_goto F (tgt := 48) dX7_value_31 (by decide) ?_
        exact g_lretR F rfl (congrArg (fun z => some (jv z)) (show (-2000000002 : Int) = if (0 ≤ ((cn : Nat) : Int) ∧ ((cn : Nat) : Int) < (m_nc : Int)) ∧ (v = 0 ∨ v = 1) then (if m_ke = 0 then lowZ (m_be ((cn : Nat) : Int).toNat) m_bu v else -2000000002) else -2000000001 by (try simp only [Int.toNat_natCast]); first | (rw [if_neg (by omega)]; done) | (rw [if_pos (by omega), if_pos (by omega)]; done) | (rw [if_pos (by omega), if_neg (by omega)]; done))) dX7_value_48
    · skip
      refine g_ldc2 F (-2000000001) (by decide) (List.mem_of_getElem? (i := 1) rfl) dX7_value_17 ?_
      exact g_lretR F rfl (congrArg (fun z => some (jv z)) (show (-2000000001 : Int) = if (0 ≤ ((cn : Nat) : Int) ∧ ((cn : Nat) : Int) < (m_nc : Int)) ∧ (v = 0 ∨ v = 1) then (if m_ke = 0 then lowZ (m_be ((cn : Nat) : Int).toNat) m_bu v else -2000000002) else -2000000001 by (try simp only [Int.toNat_natCast]); first | (rw [if_neg (by omega)]; done) | (rw [if_pos (by omega), if_pos (by omega)]; done) | (rw [if_pos (by omega), if_neg (by omega)]; done))) dX7_value_20
