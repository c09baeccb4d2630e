set_option maxHeartbeats 4000000 in
set_option maxRecDepth 100000 in
theorem kX6_put (l : Launch) (D : va_G) (cA : Nat → ClassId) (x : Nat → Nat) (x_pa : Nat) (x_ba : Nat) (x_sa : Nat) (x_qa : Nat) (x_so : Int) (h : Nat → Nat) (h_pl : Nat → Int) (h_pr : Nat → Int) (h_pb : Int) (h_qb : Int) (c : Int) (v : Int) (hc : -2147483648 ≤ c ∧ c ≤ 2147483647) (hv : -2147483648 ≤ v ∧ v ≤ 2147483647) : CT l yX6_put wsX6_put ({ frames := 1, cells := 0, slots := 0, locals := 21 }) D cA [.ref (x 0), iv (c), iv (v)] (wC cA x (x_pa) (x_ba) (x_sa) (x_qa) (h 0) (x_so) ++ wH cA h (h_pl) (h_pr) (h_pb) (h_qb)) (fun ov ow => ov = some (iv (if (0 ≤ c ∧ c < 5) ∧ -1000000000 ≤ v ∧ v ≤ 1000000000 then 0 else -2000000001)) ∧ ow = wC cA x x_pa x_ba x_sa x_qa (h 0) x_so ++ (if (0 ≤ c ∧ c < 5) ∧ -1000000000 ≤ v ∧ v ≤ 1000000000 then wH cA h (va_up h_pl c.toNat v) h_pr h_pb h_qb else wH cA h h_pl h_pr h_pb h_qb)) 0 0 := by
  refine CT.mk (cc := cX6_put) (maxL := 3) (ret := (some .int)) (by decide +kernel) rfl (Nat.le_of_ble_eq_true rfl) ?_
  intro p_ e_ s_ m_ b_ me_ c_ A F hnm hA
  have hV := @IM_P D s_ A
  have iX6 : ∀ w ∈ u_ws RX6 TX6 6, w ∈ wsX6_put := by decide +kernel
  have iX1 : ∀ w ∈ u_ws RX1 TX1 4, w ∈ wsX6_put := by decide +kernel
  refine g_lsub ([(0, .ref (x 0)), (1, iv (c)), (2, iv (v))]) [0, 1, 2] rfl ?_
  refine g_iload_n F 1 rfl rfl dX6_put_0 ?_
  refine g_if_lt F (tgt := 18) dX6_put_1 (by decide) ⟨by omega, by omega⟩ (fun c_1 => ?_) (fun c_1 => ?_)
  · skip
    refine g_ldc F (-2000000001) (by decide) (List.mem_of_getElem? (i := 2) rfl) dX6_put_18 ?_
    exact g_zret F rfl rfl (by decide) (by decide) ⟨congrArg (fun z => some (iv z)) (show (-2000000001 : Int) = if (0 ≤ c ∧ c < 5) ∧ -1000000000 ≤ v ∧ v ≤ 1000000000 then 0 else -2000000001 by (try simp only [Int.toNat_natCast]); first | (rw [if_neg (by omega)]; done) | (rw [if_pos (by omega)]; done)), (by (try simp only [Int.toNat_natCast]); first | (rw [if_neg (by omega)]; done) | (rw [if_pos (by omega)]; done))⟩ dX6_put_20
  · skip
    refine g_iload_n F 1 rfl rfl dX6_put_4 ?_
    refine g_iconst F dX6_put_5 ?_
    refine g_icmp_ge F (tgt := 18) dX6_put_6 (by decide) ⟨by omega, by omega⟩ ⟨by decide, by decide⟩ (fun c_2 => ?_) (fun c_2 => ?_)
    · skip
      refine g_ldc F (-2000000001) (by decide) (List.mem_of_getElem? (i := 2) rfl) dX6_put_18 ?_
      exact g_zret F rfl rfl (by decide) (by decide) ⟨congrArg (fun z => some (iv z)) (show (-2000000001 : Int) = if (0 ≤ c ∧ c < 5) ∧ -1000000000 ≤ v ∧ v ≤ 1000000000 then 0 else -2000000001 by (try simp only [Int.toNat_natCast]); first | (rw [if_neg (by omega)]; done) | (rw [if_pos (by omega)]; done)), (by (try simp only [Int.toNat_natCast]); first | (rw [if_neg (by omega)]; done) | (rw [if_pos (by omega)]; done))⟩ dX6_put_20
    · skip
      obtain ⟨cn, hcn⟩ : ∃ y : Nat, c = (y : Int) := ⟨c.toNat, by omega⟩
      subst hcn
      refine g_iload_n F 2 rfl rfl dX6_put_9 ?_
      refine g_ldc F (1000000000) (by decide) (List.mem_of_getElem? (i := 1) rfl) dX6_put_10 ?_
      refine g_callRS F hV (As := [iv (v), iv (1000000000)]) (rest := []) (kX6_isWithin l D cA v 1000000000 (by omega) (by omega)) (va_cwS 2 F.2.2.2.2.1 gX6_put_X6_isWithin rfl rfl rfl (by decide +kernel) ⟨Nat.le_of_ble_eq_true rfl, Nat.le_of_ble_eq_true rfl⟩) [] rfl rfl rfl (Nat.le_of_ble_eq_true rfl) ⟨Nat.le_of_ble_eq_true rfl, Nat.le_of_ble_eq_true rfl⟩ dX6_put_12 (fun v hv => ?_)
      subst hv
      refine g_eq (st' := [iv (if -1000000000 ≤ v ∧ v ≤ 1000000000 then 1 else 0)]) rfl rfl rfl ?_
      refine g_ifb_ne F (tgt := 21) dX6_put_15 (by decide) (fun c_3 => ?_) (fun c_3 => ?_)
      · skip
        refine g_aload_n F 0 rfl rfl dX6_put_21 ?_
        refine g_get F hV iX6 0 rfl rfl 4 (by decide) (List.mem_of_getElem? (i := 3) rfl) rfl dX6_put_22 ?_
        refine g_get F hV iX1 1 rfl rfl 0 (by decide) (List.mem_of_getElem? (i := 4) rfl) rfl dX6_put_25 ?_
        refine g_iload_n F 1 rfl rfl dX6_put_28 ?_
        refine g_iload_n F 2 rfl rfl dX6_put_29 ?_
        refine g_i2l F ⟨by omega, by omega⟩ dX6_put_30 ?_
        refine g_last F 2 rfl (cn) (by omega) (by omega) (by decide) (wC cA x (x_pa) (x_ba) (x_sa) (x_qa) (h 0) (x_so) ++ wH cA h (va_up h_pl cn v) (h_pr) (h_pb) (h_qb)) rfl dX6_put_31 ?_
        refine g_iconst F dX6_put_32 ?_
        exact g_zret F rfl rfl (by decide) (by decide) ⟨congrArg (fun z => some (iv z)) (show (0 : Int) = if (0 ≤ ((cn : Nat) : Int) ∧ ((cn : Nat) : Int) < 5) ∧ -1000000000 ≤ v ∧ v ≤ 1000000000 then 0 else -2000000001 by (try simp only [Int.toNat_natCast]); first | (rw [if_neg (by omega)]; done) | (rw [if_pos (by omega)]; done)), (by (try simp only [Int.toNat_natCast]); first | (rw [if_neg (by omega)]; done) | (rw [if_pos (by omega)]; done))⟩ dX6_put_33
      · skip
        refine g_ldc F (-2000000001) (by decide) (List.mem_of_getElem? (i := 2) rfl) dX6_put_18 ?_
        exact g_zret F rfl rfl (by decide) (by decide) ⟨congrArg (fun z => some (iv z)) (show (-2000000001 : Int) = if (0 ≤ ((cn : Nat) : Int) ∧ ((cn : Nat) : Int) < 5) ∧ -1000000000 ≤ v ∧ v ≤ 1000000000 then 0 else -2000000001 by (try simp only [Int.toNat_natCast]); first | (rw [if_neg (by omega)]; done) | (rw [if_pos (by omega)]; done)), (by (try simp only [Int.toNat_natCast]); first | (rw [if_neg (by omega)]; done) | (rw [if_pos (by omega)]; done))⟩ dX6_put_20
