section
variable {p : Program} {l : Launch} {e : Env} {R : Room} {s : State} {m : MethodId} {args : Array Value} {below : List Frame} {meth : Method} {c : Code} {Q : State → Prop} {Iv : va_W → Heap → List Loc → Prop} {nL kc ks : Nat} {ws : va_W} {lv : List (Nat × Value)} {st : List Value} {pc : Nat} {cc : ByteArray} {own : String} {Ts : List Cond} {rt : Option FieldType} {D : va_G} {cA : Nat → ClassId}
theorem g_astore_nN (F : Fx p s m args meth c cc nL own Ts rt D cA) {k : Fin 4} {i : Nat} (lv' : List (Nat × Value)) (hl' : (i, Value.null) :: lv.filter (fun q => !(q.1 == i) && !(q.1 + 1 == i && q.2.category == 2)) = lv') (hi : (k : Nat) = i) (hn : i < nL) (hd : decode cc pc = .ok (.astore_n k, 1)) (kk : GW p l e R s m args below meth c Q Iv nL kc ks ws lv' st (pc + 1)) : GW p l e R s m args below meth c Q Iv nL kc ks ws lv (.null :: st) pc := fun H locs ls hI hl => lv_astore_nN F.1 F.2.1 hd hi hl hn hl' (fun ls' hl2 => kk H locs ls' hI hl2)
theorem g_aload_nN (F : Fx p s m args meth c cc nL own Ts rt D cA) {k : Fin 4} {i : Nat} (j : Nat) (hj : lv[j]? = some (i, .null)) (hi : (k : Nat) = i) (hd : decode cc pc = .ok (.aload_n k, 1)) (kk : GW p l e R s m args below meth c Q Iv nL kc ks ws lv (.null :: st) (pc + 1)) : GW p l e R s m args below meth c Q Iv nL kc ks ws lv st pc := fun H locs ls hI hl => lv_aload_nN F.1 F.2.1 hd hi (lv_at hl j hj) (kk H locs ls hI hl)
theorem g_aretR (F : Fx p s m args meth c cc nL own Ts rt D cA) {post : Option Value → Prop} {x : Nat} {C : String} (hr : rt = some (.object C)) (hp : post (some (.ref x))) (hd : decode cc pc = .ok (.areturn, 1)) : GW p l e R s m args below meth c (MQ below (Qr post) args s 0 0 (fun _ => False)) (IR D s) nL 0 0 ws lv [.ref x] pc := fun H locs ls hI hl => W.aret F.1 F.2.1 (F.2.2.2.2.2.2.1.trans hr) (Or.inl ⟨C, rfl⟩) (Or.inr ⟨x, rfl⟩) (fun t ht hW => ⟨_, rfl, hp, by rw [ht, hI.1]⟩) (by rw [hI.2.1]; intro q h; cases h) hd F.2.2.2.2.2.2.2
end
set_option maxHeartbeats 4000000 in
set_option maxRecDepth 100000 in
theorem kX4_tableAt_has (l : Launch) (D : va_G) (cA : Nat → ClassId) (s : Nat → Nat) (s_tb : Nat → Option Nat) (s_sp s_sg : Nat → Int) (i x : Nat) (hi : i < 51) (hx : s_tb i = some x) : CR l yX4_tableAt wsX4_tableAt ({ frames := 0, cells := 0, slots := 0, locals := 0 }) D cA [.ref (s 0), iv ((i : Nat) : Int)] (wS cA s s_tb s_sp s_sg) (fun ov => ov = some (.ref x)) := by
  refine CR.mk (cc := cX4_tableAt) (maxL := 3) (ret := (some (.object "BoundCourt$Table"))) (by decide +kernel) rfl (Nat.le_of_ble_eq_true rfl) ?_
  intro p_ e_ s_ m_ b_ me_ c_ F
  have hV := @IR_P D s_
  have iX4 : ∀ w ∈ u_ws RX4 TX4 3, w ∈ wsX4_tableAt := by decide +kernel
  refine g_lsub ([(0, .ref (s 0)), (1, iv ((i : Nat) : Int))]) [0, 1] rfl ?_
  refine g_aload_n F 0 rfl rfl dX4_tableAt_0 ?_
  refine g_get F hV iX4 0 rfl rfl 0 (by decide) (List.mem_of_getElem? (i := 1) rfl) rfl dX4_tableAt_1 ?_
  refine g_iload_n F 1 rfl rfl dX4_tableAt_4 ?_
  refine g_aald F hV 1 rfl i rfl (by omega) (by decide) dX4_tableAt_5 hx ?_
  refine g_eq (st' := [.ref x]) rfl rfl rfl ?_
  refine g_astore_n F ([(2, .ref x), (0, .ref (s 0)), (1, iv ((i : Nat) : Int))]) rfl rfl (by decide) dX4_tableAt_6 ?_
  refine g_aload_n F 0 rfl rfl dX4_tableAt_7 ?_
  refine g_ifnonnull F (tgt := 26) dX4_tableAt_8 (by decide) ?_
  refine g_aload_n F 0 rfl rfl dX4_tableAt_26 ?_
  exact g_aretR F rfl rfl dX4_tableAt_27
set_option maxHeartbeats 4000000 in
set_option maxRecDepth 100000 in
theorem kX4_tableAt_new (l : Launch) (D : va_G) (cA : Nat → ClassId) (s : Nat → Nat) (s_tb : Nat → Option Nat) (s_sp s_sg : Nat → Int) (i : Nat) (hi : i < 51) (hx : s_tb i = none) : CT l yX4_tableAt wsX4_tableAt ({ frames := 2, cells := 7, slots := 156, locals := 50 }) D cA [.ref (s 0), iv ((i : Nat) : Int)] (wS cA s s_tb s_sp s_sg) (fun ov ow => ∃ t : Nat → Nat, ov = some (.ref (t 0)) ∧ ow = wS cA s (va_up s_tb i (some (t 0))) s_sp s_sg ++ wT cA t (fun _ => 0) (fun _ => 0) (fun _ => 0) (fun _ => 0) (fun _ => 0) (fun _ => 0) 0 0 1 (-1)) 7 156 := by
  refine CT.mk (cc := cX4_tableAt) (maxL := 3) (ret := (some (.object "BoundCourt$Table"))) (by decide +kernel) rfl (Nat.le_of_ble_eq_true rfl) ?_
  intro p_ e_ s_ m_ b_ me_ c_ A F hnm hA
  have hV := @IM_P D s_ A
  have iX4 : ∀ w ∈ u_ws RX4 TX4 3, w ∈ wsX4_tableAt := by decide +kernel
  have iX5 : ∀ w ∈ u_ws RX5 TX5 10, w ∈ wsX4_tableAt := by decide +kernel
  refine g_lsub ([(0, .ref (s 0)), (1, iv ((i : Nat) : Int))]) [0, 1] rfl ?_
  refine g_aload_n F 0 rfl rfl dX4_tableAt_0 ?_
  refine g_get F hV iX4 0 rfl rfl 0 (by decide) (List.mem_of_getElem? (i := 1) rfl) rfl dX4_tableAt_1 ?_
  refine g_iload_n F 1 rfl rfl dX4_tableAt_4 ?_
  refine g_aald F hV 1 rfl i rfl (by omega) (by decide) dX4_tableAt_5 hx ?_
  refine g_eq (st' := [.null]) rfl rfl rfl ?_
  refine g_astore_nN F ([(2, .null), (0, .ref (s 0)), (1, iv ((i : Nat) : Int))]) rfl rfl (by decide) dX4_tableAt_6 ?_
  refine g_aload_nN F 0 rfl rfl dX4_tableAt_7 ?_
  refine g_ifnonnullN F dX4_tableAt_8 ?_
  refine g_new F hA iX5 tyX5 tyX5_ok (List.mem_of_getElem? (i := 2) rfl) (List.mem_of_getElem? (i := 3) rfl) (List.mem_of_getElem? (i := 4) rfl) (ci := 5) rfl [.null, .null, .null, .null, .null, .null, iv (0), iv (0), jv (0), iv (0)] (by decide) (Nat.le_of_ble_eq_true rfl) (Nat.le_of_ble_eq_true rfl) dX4_tableAt_11 (fun q => ?_)
  refine g_eq (ws' := [(s 0, .inr (4, [.ref (s 1), .ref (s 2), .ref (s 3)])), (s 1, aT cA 51 s_tb), (s 2, aI cA 51 s_sp), (s 3, aI cA 51 s_sg), (q, .inr (5, [.null, .null, .null, .null, .null, .null, iv (0), iv (0), jv (0), iv (0)]))]) rfl rfl rfl ?_
  refine g_dup F rfl dX4_tableAt_14 ?_
  refine g_callIN F (As := []) (rest := [.ref q]) (wr := [(s 0, .inr (4, [.ref (s 1), .ref (s 2), .ref (s 3)])), (s 1, aT cA 51 s_tb), (s 2, aI cA 51 s_sp), (s 3, aI cA 51 s_sg)]) (kX5_init l D cA q) ⟨va_cnB 0 F.2.2.2.2.1 gX4_tableAt_X5_init_n24 rfl rfl rfl (F.2.2.2.2.2.1.2 _ (List.mem_of_getElem? (i := 9) rfl)) (F.2.2.2.2.1 _ (List.mem_of_getElem? (i := 4) rfl)) (by decide +kernel) ⟨(Nat.le_of_ble_eq_true rfl), (Nat.le_of_ble_eq_true rfl)⟩, rfl, F.2.2.2.2.1 _ (List.mem_of_getElem? (i := 5) rfl)⟩ [4] [0, 1, 2, 3] rfl rfl (by decide) (by decide) (by decide) rfl rfl (Nat.le_of_ble_eq_true rfl) ⟨(Nat.le_of_ble_eq_true rfl), (Nat.le_of_ble_eq_true rfl)⟩ hA dX4_tableAt_15 (fun v w hv => ?_)
  obtain ⟨hv, t, h0, hw⟩ := hv
  subst hv
  subst hw
  subst h0
  refine g_eq (ws' := wS cA s s_tb s_sp s_sg ++ wT cA t (fun _ => 0) (fun _ => 0) (fun _ => 0) (fun _ => 0) (fun _ => 0) (fun _ => 0) 0 0 1 (-1)) (st' := [.ref (t 0)]) rfl rfl rfl ?_
  refine g_astore_n F ([(2, .ref (t 0)), (0, .ref (s 0)), (1, iv ((i : Nat) : Int))]) rfl rfl (by decide) dX4_tableAt_18 ?_
  refine g_aload_n F 1 rfl rfl dX4_tableAt_19 ?_
  refine g_get F hV iX4 0 rfl rfl 0 (by decide) (List.mem_of_getElem? (i := 1) rfl) rfl dX4_tableAt_20 ?_
  refine g_iload_n F 2 rfl rfl dX4_tableAt_23 ?_
  refine g_aload_n F 0 rfl rfl dX4_tableAt_24 ?_
  refine g_aast F 1 4 rfl rfl i rfl (by omega) (by decide) (wS cA s (va_up s_tb i (some (t 0))) s_sp s_sg ++ wT cA t (fun _ => 0) (fun _ => 0) (fun _ => 0) (fun _ => 0) (fun _ => 0) (fun _ => 0) 0 0 1 (-1)) rfl dX4_tableAt_25 ?_
  refine g_aload_n F 0 rfl rfl dX4_tableAt_26 ?_
  exact g_aret F rfl (by decide) (by decide) ⟨t, rfl, rfl⟩ dX4_tableAt_27
