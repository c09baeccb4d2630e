set_option maxHeartbeats 4000000 in
set_option maxRecDepth 100000 in
theorem kX5_init (l : Launch) (D : va_G) (cA : Nat → ClassId) (b : Nat) : CT l yX5_init wsX5_init ({ frames := 1, cells := 6, slots := 146, locals := 20 }) D cA [.ref b] ([(b, .inr (5, [.null, .null, .null, .null, .null, .null, iv (0), iv (0), jv (0), iv (0)]))]) (fun ov ow => ov = none ∧ ∃ a : Nat → Nat, a 0 = b ∧ ow = wT cA a (fun _ => 0) (fun _ => 0) (fun _ => 0) (fun _ => 0) (fun _ => 0) (fun _ => 0) 0 0 1 (-1)) 6 146 := by
  refine CT.mk (cc := cX5_init) (maxL := 1) (ret := none) (by decide +kernel) rfl (Nat.le_of_ble_eq_true rfl) ?_
  intro p_ e_ s_ m_ b_ me_ c_ A F hnm hA
  have iX5 : ∀ w ∈ u_ws RX5 TX5 10, w ∈ wsX5_init := by decide +kernel
  refine g_lsub ([(0, .ref (b))]) [0] rfl ?_
  refine g_aload_n F 0 rfl rfl dX5_init_0 ?_
  refine g_objInit F (List.mem_of_getElem? (i := 1) rfl) (List.mem_of_getElem? (i := 2) rfl) (List.mem_of_getElem? (i := 3) rfl) (Nat.le_of_ble_eq_true rfl) (Nat.le_of_ble_eq_true rfl) dX5_init_1 ?_
  refine g_aload_n F 0 rfl rfl dX5_init_4 ?_
  refine g_bipush F dX5_init_5 (by decide) ?_
  refine g_newJ F hA 108 (by decide) rfl (List.mem_of_getElem? (i := 4) rfl) (Nat.le_of_ble_eq_true rfl) (Nat.le_of_ble_eq_true rfl) dX5_init_7 (fun q1 => ?_)
  refine g_eq (ws' := [(b, .inr (5, [.null, .null, .null, .null, .null, .null, iv (0), iv (0), jv (0), iv (0)])), (q1, aJ cA 108 (fun _ => 0))]) rfl rfl rfl ?_
  refine g_putF F iX5 tyX5 tyX5_ok nmX5 hnm 0 rfl rfl 0 (by decide) (List.mem_of_getElem? (i := 5) rfl) rfl rfl rfl rfl (Nat.le_of_ble_eq_true rfl) ([(b, .inr (5, [.ref (q1), .null, .null, .null, .null, .null, iv (0), iv (0), jv (0), iv (0)])), (q1, aJ cA 108 (fun _ => 0))]) rfl dX5_init_9 ?_
  refine g_aload_n F 0 rfl rfl dX5_init_12 ?_
  refine g_bipush F dX5_init_13 (by decide) ?_
  refine g_newI F hA 18 (by decide) rfl (List.mem_of_getElem? (i := 6) rfl) (Nat.le_of_ble_eq_true rfl) (Nat.le_of_ble_eq_true rfl) dX5_init_15 (fun q2 => ?_)
  refine g_eq (ws' := [(b, .inr (5, [.ref (q1), .null, .null, .null, .null, .null, iv (0), iv (0), jv (0), iv (0)])), (q1, aJ cA 108 (fun _ => 0)), (q2, aI cA 18 (fun _ => 0))]) rfl rfl rfl ?_
  refine g_putF F iX5 tyX5 tyX5_ok nmX5 hnm 0 rfl rfl 1 (by decide) (List.mem_of_getElem? (i := 7) rfl) rfl rfl rfl rfl (Nat.le_of_ble_eq_true rfl) ([(b, .inr (5, [.ref (q1), .ref (q2), .null, .null, .null, .null, iv (0), iv (0), jv (0), iv (0)])), (q1, aJ cA 108 (fun _ => 0)), (q2, aI cA 18 (fun _ => 0))]) rfl dX5_init_17 ?_
  refine g_aload_n F 0 rfl rfl dX5_init_20 ?_
  refine g_iconst F dX5_init_21 ?_
  refine g_newI F hA 5 (by decide) rfl (List.mem_of_getElem? (i := 6) rfl) (Nat.le_of_ble_eq_true rfl) (Nat.le_of_ble_eq_true rfl) dX5_init_22 (fun q3 => ?_)
  refine g_eq (ws' := [(b, .inr (5, [.ref (q1), .ref (q2), .null, .null, .null, .null, iv (0), iv (0), jv (0), iv (0)])), (q1, aJ cA 108 (fun _ => 0)), (q2, aI cA 18 (fun _ => 0)), (q3, aI cA 5 (fun _ => 0))]) rfl rfl rfl ?_
  refine g_putF F iX5 tyX5 tyX5_ok nmX5 hnm 0 rfl rfl 2 (by decide) (List.mem_of_getElem? (i := 8) rfl) rfl rfl rfl rfl (Nat.le_of_ble_eq_true rfl) ([(b, .inr (5, [.ref (q1), .ref (q2), .ref (q3), .null, .null, .null, iv (0), iv (0), jv (0), iv (0)])), (q1, aJ cA 108 (fun _ => 0)), (q2, aI cA 18 (fun _ => 0)), (q3, aI cA 5 (fun _ => 0))]) rfl dX5_init_24 ?_
  refine g_aload_n F 0 rfl rfl dX5_init_27 ?_
  refine g_iconst F dX5_init_28 ?_
  refine g_newI F hA 5 (by decide) rfl (List.mem_of_getElem? (i := 6) rfl) (Nat.le_of_ble_eq_true rfl) (Nat.le_of_ble_eq_true rfl) dX5_init_29 (fun q4 => ?_)
  refine g_eq (ws' := [(b, .inr (5, [.ref (q1), .ref (q2), .ref (q3), .null, .null, .null, iv (0), iv (0), jv (0), iv (0)])), (q1, aJ cA 108 (fun _ => 0)), (q2, aI cA 18 (fun _ => 0)), (q3, aI cA 5 (fun _ => 0)), (q4, aI cA 5 (fun _ => 0))]) rfl rfl rfl ?_
  refine g_putF F iX5 tyX5 tyX5_ok nmX5 hnm 0 rfl rfl 3 (by decide) (List.mem_of_getElem? (i := 9) rfl) rfl rfl rfl rfl (Nat.le_of_ble_eq_true rfl) ([(b, .inr (5, [.ref (q1), .ref (q2), .ref (q3), .ref (q4), .null, .null, iv (0), iv (0), jv (0), iv (0)])), (q1, aJ cA 108 (fun _ => 0)), (q2, aI cA 18 (fun _ => 0)), (q3, aI cA 5 (fun _ => 0)), (q4, aI cA 5 (fun _ => 0))]) rfl dX5_init_31 ?_
  refine g_aload_n F 0 rfl rfl dX5_init_34 ?_
  refine g_iconst F dX5_init_35 ?_
  refine g_newI F hA 5 (by decide) rfl (List.mem_of_getElem? (i := 6) rfl) (Nat.le_of_ble_eq_true rfl) (Nat.le_of_ble_eq_true rfl) dX5_init_36 (fun q5 => ?_)
  refine g_eq (ws' := [(b, .inr (5, [.ref (q1), .ref (q2), .ref (q3), .ref (q4), .null, .null, iv (0), iv (0), jv (0), iv (0)])), (q1, aJ cA 108 (fun _ => 0)), (q2, aI cA 18 (fun _ => 0)), (q3, aI cA 5 (fun _ => 0)), (q4, aI cA 5 (fun _ => 0)), (q5, aI cA 5 (fun _ => 0))]) rfl rfl rfl ?_
  refine g_putF F iX5 tyX5 tyX5_ok nmX5 hnm 0 rfl rfl 4 (by decide) (List.mem_of_getElem? (i := 10) rfl) rfl rfl rfl rfl (Nat.le_of_ble_eq_true rfl) ([(b, .inr (5, [.ref (q1), .ref (q2), .ref (q3), .ref (q4), .ref (q5), .null, iv (0), iv (0), jv (0), iv (0)])), (q1, aJ cA 108 (fun _ => 0)), (q2, aI cA 18 (fun _ => 0)), (q3, aI cA 5 (fun _ => 0)), (q4, aI cA 5 (fun _ => 0)), (q5, aI cA 5 (fun _ => 0))]) rfl dX5_init_38 ?_
  refine g_aload_n F 0 rfl rfl dX5_init_41 ?_
  refine g_iconst F dX5_init_42 ?_
  refine g_newZ F hA 5 (by decide) rfl (List.mem_of_getElem? (i := 11) rfl) (Nat.le_of_ble_eq_true rfl) (Nat.le_of_ble_eq_true rfl) dX5_init_43 (fun q6 => ?_)
  refine g_eq (ws' := [(b, .inr (5, [.ref (q1), .ref (q2), .ref (q3), .ref (q4), .ref (q5), .null, iv (0), iv (0), jv (0), iv (0)])), (q1, aJ cA 108 (fun _ => 0)), (q2, aI cA 18 (fun _ => 0)), (q3, aI cA 5 (fun _ => 0)), (q4, aI cA 5 (fun _ => 0)), (q5, aI cA 5 (fun _ => 0)), (q6, aZ cA 5 (fun _ => 0))]) rfl rfl rfl ?_
  refine g_putF F iX5 tyX5 tyX5_ok nmX5 hnm 0 rfl rfl 5 (by decide) (List.mem_of_getElem? (i := 12) rfl) rfl rfl rfl rfl (Nat.le_of_ble_eq_true rfl) ([(b, .inr (5, [.ref (q1), .ref (q2), .ref (q3), .ref (q4), .ref (q5), .ref (q6), iv (0), iv (0), jv (0), iv (0)])), (q1, aJ cA 108 (fun _ => 0)), (q2, aI cA 18 (fun _ => 0)), (q3, aI cA 5 (fun _ => 0)), (q4, aI cA 5 (fun _ => 0)), (q5, aI cA 5 (fun _ => 0)), (q6, aZ cA 5 (fun _ => 0))]) rfl dX5_init_45 ?_
  refine g_aload_n F 0 rfl rfl dX5_init_48 ?_
  refine g_iconst F dX5_init_49 ?_
  refine g_put F iX5 tyX5 tyX5_ok nmX5 0 rfl rfl 6 (by decide) (List.mem_of_getElem? (i := 13) rfl) rfl rfl rfl (Nat.le_of_ble_eq_true rfl) ([(b, .inr (5, [.ref (q1), .ref (q2), .ref (q3), .ref (q4), .ref (q5), .ref (q6), iv (0), iv (0), jv (0), iv (0)])), (q1, aJ cA 108 (fun _ => 0)), (q2, aI cA 18 (fun _ => 0)), (q3, aI cA 5 (fun _ => 0)), (q4, aI cA 5 (fun _ => 0)), (q5, aI cA 5 (fun _ => 0)), (q6, aZ cA 5 (fun _ => 0))]) rfl dX5_init_50 ?_
  refine g_aload_n F 0 rfl rfl dX5_init_53 ?_
  refine g_iconst F dX5_init_54 ?_
  refine g_put F iX5 tyX5 tyX5_ok nmX5 0 rfl rfl 7 (by decide) (List.mem_of_getElem? (i := 14) rfl) rfl rfl rfl (Nat.le_of_ble_eq_true rfl) ([(b, .inr (5, [.ref (q1), .ref (q2), .ref (q3), .ref (q4), .ref (q5), .ref (q6), iv (0), iv (0), jv (0), iv (0)])), (q1, aJ cA 108 (fun _ => 0)), (q2, aI cA 18 (fun _ => 0)), (q3, aI cA 5 (fun _ => 0)), (q4, aI cA 5 (fun _ => 0)), (q5, aI cA 5 (fun _ => 0)), (q6, aZ cA 5 (fun _ => 0))]) rfl dX5_init_55 ?_
  refine g_aload_n F 0 rfl rfl dX5_init_58 ?_
  refine g_lconst F (z := 1) dX5_init_59 (by decide) ?_
  refine g_put F iX5 tyX5 tyX5_ok nmX5 0 rfl rfl 8 (by decide) (List.mem_of_getElem? (i := 15) rfl) rfl rfl rfl (Nat.le_of_ble_eq_true rfl) ([(b, .inr (5, [.ref (q1), .ref (q2), .ref (q3), .ref (q4), .ref (q5), .ref (q6), iv (0), iv (0), jv (1), iv (0)])), (q1, aJ cA 108 (fun _ => 0)), (q2, aI cA 18 (fun _ => 0)), (q3, aI cA 5 (fun _ => 0)), (q4, aI cA 5 (fun _ => 0)), (q5, aI cA 5 (fun _ => 0)), (q6, aZ cA 5 (fun _ => 0))]) rfl dX5_init_60 ?_
  refine g_aload_n F 0 rfl rfl dX5_init_63 ?_
  refine g_iconst F dX5_init_64 ?_
  refine g_put F iX5 tyX5 tyX5_ok nmX5 0 rfl rfl 9 (by decide) (List.mem_of_getElem? (i := 16) rfl) rfl rfl rfl (Nat.le_of_ble_eq_true rfl) ([(b, .inr (5, [.ref (q1), .ref (q2), .ref (q3), .ref (q4), .ref (q5), .ref (q6), iv (0), iv (0), jv (1), iv (-1)])), (q1, aJ cA 108 (fun _ => 0)), (q2, aI cA 18 (fun _ => 0)), (q3, aI cA 5 (fun _ => 0)), (q4, aI cA 5 (fun _ => 0)), (q5, aI cA 5 (fun _ => 0)), (q6, aZ cA 5 (fun _ => 0))]) rfl dX5_init_65 ?_
  exact g_vret F rfl (by decide) (by decide) ⟨rfl, ⟨fun i => [b, q1, q2, q3, q4, q5, q6].getD i 0, rfl, rfl⟩⟩ dX5_init_68

set_option maxHeartbeats 4000000 in
set_option maxRecDepth 100000 in
theorem kX2_init (l : Launch) (D : va_G) (cA : Nat → ClassId) (b : Nat) : CT l yX2_init wsX2_init ({ frames := 1, cells := 9, slots := 81, locals := 20 }) D cA [.ref b] ([(b, .inr (2, [.null, .null, .null, .null, .null, .null, .null, .null, .null, iv (0), iv (0)]))]) (fun ov ow => ov = none ∧ ∃ a : Nat → Nat, a 0 = b ∧ ow = wP cA a (fun _ => 0) (fun _ => 0) (fun _ => 0) (fun _ => 0) (fun _ => 0) (fun _ => 0) (fun _ => 0) (fun _ => 0) (fun _ => 0) 0 0) 9 81 := by
  refine CT.mk (cc := cX2_init) (maxL := 1) (ret := none) (by decide +kernel) rfl (Nat.le_of_ble_eq_true rfl) ?_
  intro p_ e_ s_ m_ b_ me_ c_ A F hnm hA
  have iX2 : ∀ w ∈ u_ws RX2 TX2 11, w ∈ wsX2_init := by decide +kernel
  refine g_lsub ([(0, .ref (b))]) [0] rfl ?_
  refine g_aload_n F 0 rfl rfl dX2_init_0 ?_
  refine g_objInit F (List.mem_of_getElem? (i := 1) rfl) (List.mem_of_getElem? (i := 2) rfl) (List.mem_of_getElem? (i := 3) rfl) (Nat.le_of_ble_eq_true rfl) (Nat.le_of_ble_eq_true rfl) dX2_init_1 ?_
  refine g_aload_n F 0 rfl rfl dX2_init_4 ?_
  refine g_iconst F dX2_init_5 ?_
  refine g_newI F hA 5 (by decide) rfl (List.mem_of_getElem? (i := 4) rfl) (Nat.le_of_ble_eq_true rfl) (Nat.le_of_ble_eq_true rfl) dX2_init_6 (fun q1 => ?_)
  refine g_eq (ws' := [(b, .inr (2, [.null, .null, .null, .null, .null, .null, .null, .null, .null, iv (0), iv (0)])), (q1, aI cA 5 (fun _ => 0))]) rfl rfl rfl ?_
  refine g_putF F iX2 tyX2 tyX2_ok nmX2 hnm 0 rfl rfl 0 (by decide) (List.mem_of_getElem? (i := 5) rfl) rfl rfl rfl rfl (Nat.le_of_ble_eq_true rfl) ([(b, .inr (2, [.ref (q1), .null, .null, .null, .null, .null, .null, .null, .null, iv (0), iv (0)])), (q1, aI cA 5 (fun _ => 0))]) rfl dX2_init_8 ?_
  refine g_aload_n F 0 rfl rfl dX2_init_11 ?_
  refine g_iconst F dX2_init_12 ?_
  refine g_newI F hA 5 (by decide) rfl (List.mem_of_getElem? (i := 4) rfl) (Nat.le_of_ble_eq_true rfl) (Nat.le_of_ble_eq_true rfl) dX2_init_13 (fun q2 => ?_)
  refine g_eq (ws' := [(b, .inr (2, [.ref (q1), .null, .null, .null, .null, .null, .null, .null, .null, iv (0), iv (0)])), (q1, aI cA 5 (fun _ => 0)), (q2, aI cA 5 (fun _ => 0))]) rfl rfl rfl ?_
  refine g_putF F iX2 tyX2 tyX2_ok nmX2 hnm 0 rfl rfl 1 (by decide) (List.mem_of_getElem? (i := 6) rfl) rfl rfl rfl rfl (Nat.le_of_ble_eq_true rfl) ([(b, .inr (2, [.ref (q1), .ref (q2), .null, .null, .null, .null, .null, .null, .null, iv (0), iv (0)])), (q1, aI cA 5 (fun _ => 0)), (q2, aI cA 5 (fun _ => 0))]) rfl dX2_init_15 ?_
  refine g_aload_n F 0 rfl rfl dX2_init_18 ?_
  refine g_iconst F dX2_init_19 ?_
  refine g_newI F hA 5 (by decide) rfl (List.mem_of_getElem? (i := 4) rfl) (Nat.le_of_ble_eq_true rfl) (Nat.le_of_ble_eq_true rfl) dX2_init_20 (fun q3 => ?_)
  refine g_eq (ws' := [(b, .inr (2, [.ref (q1), .ref (q2), .null, .null, .null, .null, .null, .null, .null, iv (0), iv (0)])), (q1, aI cA 5 (fun _ => 0)), (q2, aI cA 5 (fun _ => 0)), (q3, aI cA 5 (fun _ => 0))]) rfl rfl rfl ?_
  refine g_putF F iX2 tyX2 tyX2_ok nmX2 hnm 0 rfl rfl 2 (by decide) (List.mem_of_getElem? (i := 7) rfl) rfl rfl rfl rfl (Nat.le_of_ble_eq_true rfl) ([(b, .inr (2, [.ref (q1), .ref (q2), .ref (q3), .null, .null, .null, .null, .null, .null, iv (0), iv (0)])), (q1, aI cA 5 (fun _ => 0)), (q2, aI cA 5 (fun _ => 0)), (q3, aI cA 5 (fun _ => 0))]) rfl dX2_init_22 ?_
  refine g_aload_n F 0 rfl rfl dX2_init_25 ?_
  refine g_iconst F dX2_init_26 ?_
  refine g_newI F hA 5 (by decide) rfl (List.mem_of_getElem? (i := 4) rfl) (Nat.le_of_ble_eq_true rfl) (Nat.le_of_ble_eq_true rfl) dX2_init_27 (fun q4 => ?_)
  refine g_eq (ws' := [(b, .inr (2, [.ref (q1), .ref (q2), .ref (q3), .null, .null, .null, .null, .null, .null, iv (0), iv (0)])), (q1, aI cA 5 (fun _ => 0)), (q2, aI cA 5 (fun _ => 0)), (q3, aI cA 5 (fun _ => 0)), (q4, aI cA 5 (fun _ => 0))]) rfl rfl rfl ?_
  refine g_putF F iX2 tyX2 tyX2_ok nmX2 hnm 0 rfl rfl 3 (by decide) (List.mem_of_getElem? (i := 8) rfl) rfl rfl rfl rfl (Nat.le_of_ble_eq_true rfl) ([(b, .inr (2, [.ref (q1), .ref (q2), .ref (q3), .ref (q4), .null, .null, .null, .null, .null, iv (0), iv (0)])), (q1, aI cA 5 (fun _ => 0)), (q2, aI cA 5 (fun _ => 0)), (q3, aI cA 5 (fun _ => 0)), (q4, aI cA 5 (fun _ => 0))]) rfl dX2_init_29 ?_
  refine g_aload_n F 0 rfl rfl dX2_init_32 ?_
  refine g_iconst F dX2_init_33 ?_
  refine g_newI F hA 5 (by decide) rfl (List.mem_of_getElem? (i := 4) rfl) (Nat.le_of_ble_eq_true rfl) (Nat.le_of_ble_eq_true rfl) dX2_init_34 (fun q5 => ?_)
  refine g_eq (ws' := [(b, .inr (2, [.ref (q1), .ref (q2), .ref (q3), .ref (q4), .null, .null, .null, .null, .null, iv (0), iv (0)])), (q1, aI cA 5 (fun _ => 0)), (q2, aI cA 5 (fun _ => 0)), (q3, aI cA 5 (fun _ => 0)), (q4, aI cA 5 (fun _ => 0)), (q5, aI cA 5 (fun _ => 0))]) rfl rfl rfl ?_
  refine g_putF F iX2 tyX2 tyX2_ok nmX2 hnm 0 rfl rfl 4 (by decide) (List.mem_of_getElem? (i := 9) rfl) rfl rfl rfl rfl (Nat.le_of_ble_eq_true rfl) ([(b, .inr (2, [.ref (q1), .ref (q2), .ref (q3), .ref (q4), .ref (q5), .null, .null, .null, .null, iv (0), iv (0)])), (q1, aI cA 5 (fun _ => 0)), (q2, aI cA 5 (fun _ => 0)), (q3, aI cA 5 (fun _ => 0)), (q4, aI cA 5 (fun _ => 0)), (q5, aI cA 5 (fun _ => 0))]) rfl dX2_init_36 ?_
  refine g_aload_n F 0 rfl rfl dX2_init_39 ?_
  refine g_bipush F dX2_init_40 (by decide) ?_
  refine g_newI F hA 7 (by decide) rfl (List.mem_of_getElem? (i := 4) rfl) (Nat.le_of_ble_eq_true rfl) (Nat.le_of_ble_eq_true rfl) dX2_init_42 (fun q6 => ?_)
  refine g_eq (ws' := [(b, .inr (2, [.ref (q1), .ref (q2), .ref (q3), .ref (q4), .ref (q5), .null, .null, .null, .null, iv (0), iv (0)])), (q1, aI cA 5 (fun _ => 0)), (q2, aI cA 5 (fun _ => 0)), (q3, aI cA 5 (fun _ => 0)), (q4, aI cA 5 (fun _ => 0)), (q5, aI cA 5 (fun _ => 0)), (q6, aI cA 7 (fun _ => 0))]) rfl rfl rfl ?_
  refine g_putF F iX2 tyX2 tyX2_ok nmX2 hnm 0 rfl rfl 5 (by decide) (List.mem_of_getElem? (i := 10) rfl) rfl rfl rfl rfl (Nat.le_of_ble_eq_true rfl) ([(b, .inr (2, [.ref (q1), .ref (q2), .ref (q3), .ref (q4), .ref (q5), .ref (q6), .null, .null, .null, iv (0), iv (0)])), (q1, aI cA 5 (fun _ => 0)), (q2, aI cA 5 (fun _ => 0)), (q3, aI cA 5 (fun _ => 0)), (q4, aI cA 5 (fun _ => 0)), (q5, aI cA 5 (fun _ => 0)), (q6, aI cA 7 (fun _ => 0))]) rfl dX2_init_44 ?_
  refine g_aload_n F 0 rfl rfl dX2_init_47 ?_
  refine g_bipush F dX2_init_48 (by decide) ?_
  refine g_newI F hA 7 (by decide) rfl (List.mem_of_getElem? (i := 4) rfl) (Nat.le_of_ble_eq_true rfl) (Nat.le_of_ble_eq_true rfl) dX2_init_50 (fun q7 => ?_)
  refine g_eq (ws' := [(b, .inr (2, [.ref (q1), .ref (q2), .ref (q3), .ref (q4), .ref (q5), .ref (q6), .null, .null, .null, iv (0), iv (0)])), (q1, aI cA 5 (fun _ => 0)), (q2, aI cA 5 (fun _ => 0)), (q3, aI cA 5 (fun _ => 0)), (q4, aI cA 5 (fun _ => 0)), (q5, aI cA 5 (fun _ => 0)), (q6, aI cA 7 (fun _ => 0)), (q7, aI cA 7 (fun _ => 0))]) rfl rfl rfl ?_
  refine g_putF F iX2 tyX2 tyX2_ok nmX2 hnm 0 rfl rfl 6 (by decide) (List.mem_of_getElem? (i := 11) rfl) rfl rfl rfl rfl (Nat.le_of_ble_eq_true rfl) ([(b, .inr (2, [.ref (q1), .ref (q2), .ref (q3), .ref (q4), .ref (q5), .ref (q6), .ref (q7), .null, .null, iv (0), iv (0)])), (q1, aI cA 5 (fun _ => 0)), (q2, aI cA 5 (fun _ => 0)), (q3, aI cA 5 (fun _ => 0)), (q4, aI cA 5 (fun _ => 0)), (q5, aI cA 5 (fun _ => 0)), (q6, aI cA 7 (fun _ => 0)), (q7, aI cA 7 (fun _ => 0))]) rfl dX2_init_52 ?_
  refine g_aload_n F 0 rfl rfl dX2_init_55 ?_
  refine g_bipush F dX2_init_56 (by decide) ?_
  refine g_newI F hA 7 (by decide) rfl (List.mem_of_getElem? (i := 4) rfl) (Nat.le_of_ble_eq_true rfl) (Nat.le_of_ble_eq_true rfl) dX2_init_58 (fun q8 => ?_)
  refine g_eq (ws' := [(b, .inr (2, [.ref (q1), .ref (q2), .ref (q3), .ref (q4), .ref (q5), .ref (q6), .ref (q7), .null, .null, iv (0), iv (0)])), (q1, aI cA 5 (fun _ => 0)), (q2, aI cA 5 (fun _ => 0)), (q3, aI cA 5 (fun _ => 0)), (q4, aI cA 5 (fun _ => 0)), (q5, aI cA 5 (fun _ => 0)), (q6, aI cA 7 (fun _ => 0)), (q7, aI cA 7 (fun _ => 0)), (q8, aI cA 7 (fun _ => 0))]) rfl rfl rfl ?_
  refine g_putF F iX2 tyX2 tyX2_ok nmX2 hnm 0 rfl rfl 7 (by decide) (List.mem_of_getElem? (i := 12) rfl) rfl rfl rfl rfl (Nat.le_of_ble_eq_true rfl) ([(b, .inr (2, [.ref (q1), .ref (q2), .ref (q3), .ref (q4), .ref (q5), .ref (q6), .ref (q7), .ref (q8), .null, iv (0), iv (0)])), (q1, aI cA 5 (fun _ => 0)), (q2, aI cA 5 (fun _ => 0)), (q3, aI cA 5 (fun _ => 0)), (q4, aI cA 5 (fun _ => 0)), (q5, aI cA 5 (fun _ => 0)), (q6, aI cA 7 (fun _ => 0)), (q7, aI cA 7 (fun _ => 0)), (q8, aI cA 7 (fun _ => 0))]) rfl dX2_init_60 ?_
  refine g_aload_n F 0 rfl rfl dX2_init_63 ?_
  refine g_bipush F dX2_init_64 (by decide) ?_
  refine g_newI F hA 35 (by decide) rfl (List.mem_of_getElem? (i := 4) rfl) (Nat.le_of_ble_eq_true rfl) (Nat.le_of_ble_eq_true rfl) dX2_init_66 (fun q9 => ?_)
  refine g_eq (ws' := [(b, .inr (2, [.ref (q1), .ref (q2), .ref (q3), .ref (q4), .ref (q5), .ref (q6), .ref (q7), .ref (q8), .null, iv (0), iv (0)])), (q1, aI cA 5 (fun _ => 0)), (q2, aI cA 5 (fun _ => 0)), (q3, aI cA 5 (fun _ => 0)), (q4, aI cA 5 (fun _ => 0)), (q5, aI cA 5 (fun _ => 0)), (q6, aI cA 7 (fun _ => 0)), (q7, aI cA 7 (fun _ => 0)), (q8, aI cA 7 (fun _ => 0)), (q9, aI cA 35 (fun _ => 0))]) rfl rfl rfl ?_
  refine g_putF F iX2 tyX2 tyX2_ok nmX2 hnm 0 rfl rfl 8 (by decide) (List.mem_of_getElem? (i := 13) rfl) rfl rfl rfl rfl (Nat.le_of_ble_eq_true rfl) ([(b, .inr (2, [.ref (q1), .ref (q2), .ref (q3), .ref (q4), .ref (q5), .ref (q6), .ref (q7), .ref (q8), .ref (q9), iv (0), iv (0)])), (q1, aI cA 5 (fun _ => 0)), (q2, aI cA 5 (fun _ => 0)), (q3, aI cA 5 (fun _ => 0)), (q4, aI cA 5 (fun _ => 0)), (q5, aI cA 5 (fun _ => 0)), (q6, aI cA 7 (fun _ => 0)), (q7, aI cA 7 (fun _ => 0)), (q8, aI cA 7 (fun _ => 0)), (q9, aI cA 35 (fun _ => 0))]) rfl dX2_init_68 ?_
  refine g_aload_n F 0 rfl rfl dX2_init_71 ?_
  refine g_iconst F dX2_init_72 ?_
  refine g_put F iX2 tyX2 tyX2_ok nmX2 0 rfl rfl 9 (by decide) (List.mem_of_getElem? (i := 14) rfl) rfl rfl rfl (Nat.le_of_ble_eq_true rfl) ([(b, .inr (2, [.ref (q1), .ref (q2), .ref (q3), .ref (q4), .ref (q5), .ref (q6), .ref (q7), .ref (q8), .ref (q9), iv (0), iv (0)])), (q1, aI cA 5 (fun _ => 0)), (q2, aI cA 5 (fun _ => 0)), (q3, aI cA 5 (fun _ => 0)), (q4, aI cA 5 (fun _ => 0)), (q5, aI cA 5 (fun _ => 0)), (q6, aI cA 7 (fun _ => 0)), (q7, aI cA 7 (fun _ => 0)), (q8, aI cA 7 (fun _ => 0)), (q9, aI cA 35 (fun _ => 0))]) rfl dX2_init_73 ?_
  refine g_aload_n F 0 rfl rfl dX2_init_76 ?_
  refine g_iconst F dX2_init_77 ?_
  refine g_put F iX2 tyX2 tyX2_ok nmX2 0 rfl rfl 10 (by decide) (List.mem_of_getElem? (i := 15) rfl) rfl rfl rfl (Nat.le_of_ble_eq_true rfl) ([(b, .inr (2, [.ref (q1), .ref (q2), .ref (q3), .ref (q4), .ref (q5), .ref (q6), .ref (q7), .ref (q8), .ref (q9), iv (0), iv (0)])), (q1, aI cA 5 (fun _ => 0)), (q2, aI cA 5 (fun _ => 0)), (q3, aI cA 5 (fun _ => 0)), (q4, aI cA 5 (fun _ => 0)), (q5, aI cA 5 (fun _ => 0)), (q6, aI cA 7 (fun _ => 0)), (q7, aI cA 7 (fun _ => 0)), (q8, aI cA 7 (fun _ => 0)), (q9, aI cA 35 (fun _ => 0))]) rfl dX2_init_78 ?_
  exact g_vret F rfl (by decide) (by decide) ⟨rfl, ⟨fun i => [b, q1, q2, q3, q4, q5, q6, q7, q8, q9].getD i 0, rfl, rfl⟩⟩ dX2_init_81

set_option maxHeartbeats 4000000 in
set_option maxRecDepth 100000 in
theorem kX0_init (l : Launch) (D : va_G) (cA : Nat → ClassId) (b : Nat) : CT l yX0_init wsX0_init ({ frames := 1, cells := 1, slots := 5, locals := 20 }) D cA [.ref b] ([(b, .inr (0, [.null, jv (0), jv (0), iv (0)]))]) (fun ov ow => ov = none ∧ ∃ a : Nat → Nat, a 0 = b ∧ ow = wB cA a (fun _ => 0) 0 1 3) 1 5 := by
  refine CT.mk (cc := cX0_init) (maxL := 1) (ret := none) (by decide +kernel) rfl (Nat.le_of_ble_eq_true rfl) ?_
  intro p_ e_ s_ m_ b_ me_ c_ A F hnm hA
  have iX0 : ∀ w ∈ u_ws RX0 TX0 4, w ∈ wsX0_init := by decide +kernel
  refine g_lsub ([(0, .ref (b))]) [0] rfl ?_
  refine g_aload_n F 0 rfl rfl dX0_init_0 ?_
  refine g_objInit F (List.mem_of_getElem? (i := 1) rfl) (List.mem_of_getElem? (i := 2) rfl) (List.mem_of_getElem? (i := 3) rfl) (Nat.le_of_ble_eq_true rfl) (Nat.le_of_ble_eq_true rfl) dX0_init_1 ?_
  refine g_aload_n F 0 rfl rfl dX0_init_4 ?_
  refine g_iconst F dX0_init_5 ?_
  refine g_newJ F hA 5 (by decide) rfl (List.mem_of_getElem? (i := 4) rfl) (Nat.le_of_ble_eq_true rfl) (Nat.le_of_ble_eq_true rfl) dX0_init_6 (fun q1 => ?_)
  refine g_eq (ws' := [(b, .inr (0, [.null, jv (0), jv (0), iv (0)])), (q1, aJ cA 5 (fun _ => 0))]) rfl rfl rfl ?_
  refine g_putF F iX0 tyX0 tyX0_ok nmX0 hnm 0 rfl rfl 0 (by decide) (List.mem_of_getElem? (i := 5) rfl) rfl rfl rfl rfl (Nat.le_of_ble_eq_true rfl) ([(b, .inr (0, [.ref (q1), jv (0), jv (0), iv (0)])), (q1, aJ cA 5 (fun _ => 0))]) rfl dX0_init_8 ?_
  refine g_aload_n F 0 rfl rfl dX0_init_11 ?_
  refine g_lconst F (z := 0) dX0_init_12 (by decide) ?_
  refine g_put F iX0 tyX0 tyX0_ok nmX0 0 rfl rfl 1 (by decide) (List.mem_of_getElem? (i := 6) rfl) rfl rfl rfl (Nat.le_of_ble_eq_true rfl) ([(b, .inr (0, [.ref (q1), jv (0), jv (0), iv (0)])), (q1, aJ cA 5 (fun _ => 0))]) rfl dX0_init_13 ?_
  refine g_aload_n F 0 rfl rfl dX0_init_16 ?_
  refine g_lconst F (z := 1) dX0_init_17 (by decide) ?_
  refine g_put F iX0 tyX0 tyX0_ok nmX0 0 rfl rfl 2 (by decide) (List.mem_of_getElem? (i := 7) rfl) rfl rfl rfl (Nat.le_of_ble_eq_true rfl) ([(b, .inr (0, [.ref (q1), jv (0), jv (1), iv (0)])), (q1, aJ cA 5 (fun _ => 0))]) rfl dX0_init_18 ?_
  refine g_aload_n F 0 rfl rfl dX0_init_21 ?_
  refine g_iconst F dX0_init_22 ?_
  refine g_put F iX0 tyX0 tyX0_ok nmX0 0 rfl rfl 3 (by decide) (List.mem_of_getElem? (i := 8) rfl) rfl rfl rfl (Nat.le_of_ble_eq_true rfl) ([(b, .inr (0, [.ref (q1), jv (0), jv (1), iv (3)])), (q1, aJ cA 5 (fun _ => 0))]) rfl dX0_init_23 ?_
  exact g_vret F rfl (by decide) (by decide) ⟨rfl, ⟨fun i => [b, q1].getD i 0, rfl, rfl⟩⟩ dX0_init_26

set_option maxHeartbeats 4000000 in
set_option maxRecDepth 100000 in
theorem kX1_init (l : Launch) (D : va_G) (cA : Nat → ClassId) (b : Nat) : CT l yX1_init wsX1_init ({ frames := 1, cells := 2, slots := 12, locals := 20 }) D cA [.ref b] ([(b, .inr (1, [.null, .null, jv (0), iv (0)]))]) (fun ov ow => ov = none ∧ ∃ a : Nat → Nat, a 0 = b ∧ ow = wH cA a (fun _ => 0) (fun _ => 0) 1 1) 2 12 := by
  refine CT.mk (cc := cX1_init) (maxL := 1) (ret := none) (by decide +kernel) rfl (Nat.le_of_ble_eq_true rfl) ?_
  intro p_ e_ s_ m_ b_ me_ c_ A F hnm hA
  have iX1 : ∀ w ∈ u_ws RX1 TX1 4, w ∈ wsX1_init := by decide +kernel
  refine g_lsub ([(0, .ref (b))]) [0] rfl ?_
  refine g_aload_n F 0 rfl rfl dX1_init_0 ?_
  refine g_objInit F (List.mem_of_getElem? (i := 1) rfl) (List.mem_of_getElem? (i := 2) rfl) (List.mem_of_getElem? (i := 3) rfl) (Nat.le_of_ble_eq_true rfl) (Nat.le_of_ble_eq_true rfl) dX1_init_1 ?_
  refine g_aload_n F 0 rfl rfl dX1_init_4 ?_
  refine g_iconst F dX1_init_5 ?_
  refine g_newJ F hA 5 (by decide) rfl (List.mem_of_getElem? (i := 4) rfl) (Nat.le_of_ble_eq_true rfl) (Nat.le_of_ble_eq_true rfl) dX1_init_6 (fun q1 => ?_)
  refine g_eq (ws' := [(b, .inr (1, [.null, .null, jv (0), iv (0)])), (q1, aJ cA 5 (fun _ => 0))]) rfl rfl rfl ?_
  refine g_putF F iX1 tyX1 tyX1_ok nmX1 hnm 0 rfl rfl 0 (by decide) (List.mem_of_getElem? (i := 5) rfl) rfl rfl rfl rfl (Nat.le_of_ble_eq_true rfl) ([(b, .inr (1, [.ref (q1), .null, jv (0), iv (0)])), (q1, aJ cA 5 (fun _ => 0))]) rfl dX1_init_8 ?_
  refine g_aload_n F 0 rfl rfl dX1_init_11 ?_
  refine g_bipush F dX1_init_12 (by decide) ?_
  refine g_newI F hA 7 (by decide) rfl (List.mem_of_getElem? (i := 6) rfl) (Nat.le_of_ble_eq_true rfl) (Nat.le_of_ble_eq_true rfl) dX1_init_14 (fun q2 => ?_)
  refine g_eq (ws' := [(b, .inr (1, [.ref (q1), .null, jv (0), iv (0)])), (q1, aJ cA 5 (fun _ => 0)), (q2, aI cA 7 (fun _ => 0))]) rfl rfl rfl ?_
  refine g_putF F iX1 tyX1 tyX1_ok nmX1 hnm 0 rfl rfl 1 (by decide) (List.mem_of_getElem? (i := 7) rfl) rfl rfl rfl rfl (Nat.le_of_ble_eq_true rfl) ([(b, .inr (1, [.ref (q1), .ref (q2), jv (0), iv (0)])), (q1, aJ cA 5 (fun _ => 0)), (q2, aI cA 7 (fun _ => 0))]) rfl dX1_init_16 ?_
  refine g_aload_n F 0 rfl rfl dX1_init_19 ?_
  refine g_lconst F (z := 1) dX1_init_20 (by decide) ?_
  refine g_put F iX1 tyX1 tyX1_ok nmX1 0 rfl rfl 2 (by decide) (List.mem_of_getElem? (i := 8) rfl) rfl rfl rfl (Nat.le_of_ble_eq_true rfl) ([(b, .inr (1, [.ref (q1), .ref (q2), jv (1), iv (0)])), (q1, aJ cA 5 (fun _ => 0)), (q2, aI cA 7 (fun _ => 0))]) rfl dX1_init_21 ?_
  refine g_aload_n F 0 rfl rfl dX1_init_24 ?_
  refine g_iconst F dX1_init_25 ?_
  refine g_put F iX1 tyX1 tyX1_ok nmX1 0 rfl rfl 3 (by decide) (List.mem_of_getElem? (i := 9) rfl) rfl rfl rfl (Nat.le_of_ble_eq_true rfl) ([(b, .inr (1, [.ref (q1), .ref (q2), jv (1), iv (1)])), (q1, aJ cA 5 (fun _ => 0)), (q2, aI cA 7 (fun _ => 0))]) rfl dX1_init_26 ?_
  exact g_vret F rfl (by decide) (by decide) ⟨rfl, ⟨fun i => [b, q1, q2].getD i 0, rfl, rfl⟩⟩ dX1_init_29
