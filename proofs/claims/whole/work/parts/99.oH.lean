set_option maxRecDepth 20000 in
theorem lw_nest : ∀ w ∈ nestW, Cond.methodLinkNest w.1 w.2.1 w.2.2.1 w.2.2.2 ∈ lw_tbl := by decide +kernel
theorem arr_of {s : State} {cA : ClassId} {ty : FieldType} {k : Class} {comp : ClassId} (h1 : s.vm.classes[cA]? = some k) (h2 : k.kind = .array comp ty) : ArrOfT s cA ty := fun n z => ⟨fun k => (by intro h; cases h), k, h1, comp, h2⟩
theorem lw_I0 : lwI (fun _ => 0) (fun _ => 0) (fun _ => 0) (fun _ => 0) (fun _ => 0) (fun _ => 0) (fun _ => 0) (fun _ => 0) (fun _ => 0) 0 0 (((0, fun _ => (0, zT), fun _ => 0, fun _ => 0, (fun _ => 0, 0, 1, 3)) : BX)) 0 (fun _ _ => 0) (fun _ => none) (fun _ => 0) zT (fun _ => 0) (fun _ => 0) 1 1 (-1) 1 0 (fun _ => 0) :=
  ⟨pr_0, ⟨stale_z, ⟨⟨by decide, by decide⟩, ⟨by decide, by decide⟩, fun _ => by show (-200000000000 : Int) ≤ 0 ∧ (0 : Int) ≤ 200000000000; decide⟩, ⟨by decide, by decide⟩, by decide, fun j hj => absurd hj (Nat.not_lt_zero j), fun _ _ _ => rfl, fun _ => rfl⟩, ⟨stale_z, fun _ => Or.inl rfl⟩, ⟨fun _ => by show (-200000000000 : Int) ≤ 0 ∧ (0 : Int) ≤ 200000000000; decide, ⟨by decide, by decide⟩, fun _ => by show (-1000000 : Int) ≤ 0 ∧ (0 : Int) ≤ 1000000; decide, ⟨by decide, by decide⟩⟩, ⟨⟨⟨by decide, by decide⟩, ⟨by decide, by decide⟩, fun _ => by show (-200000000000 : Int) ≤ 0 ∧ (0 : Int) ≤ 200000000000; decide⟩, by decide, by decide⟩, ⟨⟨fun z => absurd (show (3 : Int) = 0 from z) (by decide), fun z => absurd z (by decide)⟩, fun z => absurd (show (3 : Int) = 0 from z) (by decide)⟩⟩
set_option maxHeartbeats 4000000 in
set_option maxRecDepth 100000 in
theorem lw_go {p : Program} {l : Launch} {e : Env} {s : State} {m : MethodId} {below : List Frame} {meth : Method} {c : Code} {D : va_G} {cA : Nat → ClassId} {A : Nat → Prop} {sb Ln : Nat} {xs : Nat → Int32} (F : Fx p s m #[Value.ref sb] meth c cL_law 4 RL wsL_law ret D cA) (hO : va_AO RX5 s) (hA : ∀ q, s.heap.size ≤ q → A q) (hA2 : ∀ q, A q → s.heap.size ≤ q) (hX : va_X sb Ln xs s s.heap) (hbl : sb < s.heap.size) (hbA : ¬ A sb) (hL : Ln ≤ 2048) : GW p l e room_1 s m #[Value.ref sb] below meth c (lw_Z below #[Value.ref sb] s) (IM D s A) 4 0 0 [] (lv_args 0 [Value.ref sb]) [] 0 := by
  refine g_lsub ([(0, .ref sb)]) [0] rfl ?_
  refine g_new F hA inlX6 tyX6 tyX6_ok (List.mem_of_getElem? (i := 0) rfl) (List.mem_of_getElem? (i := 1) rfl) (List.mem_of_getElem? (i := 2) rfl) (ci := 6) rfl [.null, .null, .null, .null, .null, iv (0)] (by decide) (Nat.le_of_ble_eq_true rfl) (Nat.le_of_ble_eq_true rfl) dL_law_0 (fun q => ?_)
  refine g_eq (ws' := [(q, .inr (6, [.null, .null, .null, .null, .null, iv (0)]))]) rfl rfl rfl ?_
  refine g_dup F rfl dL_law_3 ?_
  refine g_callIO F hO (As := []) (rest := [.ref q]) (wr := []) (kX6_init l D cA q) (cwI 0 F.2.2.2.2.1 gL_law_X6_init rfl rfl rfl (F.2.2.2.2.1 _ (List.mem_of_getElem? (i := 2) rfl)) (F.2.2.2.2.1 _ (List.mem_of_getElem? (i := 6) rfl)) (F.2.2.2.2.1 _ (List.mem_of_getElem? (i := 7) rfl)) rfl (by decide +kernel) ⟨(Nat.le_of_ble_eq_true rfl), (Nat.le_of_ble_eq_true rfl)⟩) [0] [] rfl rfl (by decide) (by decide) (by decide) rfl rfl (Nat.le_of_ble_eq_true rfl) ⟨(Nat.le_of_ble_eq_true rfl), (Nat.le_of_ble_eq_true rfl)⟩ hA dL_law_4 (fun v w hv => ?_)
  obtain ⟨hv, x, pg, bt, se, qr, tq, hd, hx0, hw⟩ := hv
  subst hv
  subst hw
  subst hx0
  refine g_eq (ws' := wC cA x (pg 0) (bt 0) (se 0) (qr 0) (hd 0) 0 ++ wP cA pg (fun _ => 0) (fun _ => 0) (fun _ => 0) (fun _ => 0) (fun _ => 0) (fun _ => 0) (fun _ => 0) (fun _ => 0) (fun _ => 0) 0 0 ++ wB cA bt (fun _ => 0) 0 1 3 ++ wS cA se (fun _ => none) (fun _ => 0) (fun _ => 0) ++ wQ cA qr (tq 0) (fun _ => 0) (fun _ => 0) ++ wT cA tq (fun _ => 0) (fun _ => 0) (fun _ => 0) (fun _ => 0) (fun _ => 0) (fun _ => 0) 0 0 1 (-1) ++ wH cA hd (fun _ => 0) (fun _ => 0) 1 1) (st' := [.ref (x 0)]) rfl rfl rfl ?_
  refine g_astore_n F ([(1, .ref (x 0)), (0, .ref sb)]) rfl rfl (by decide) dL_law_7 ?_
  refine g_new F hA inlX7 tyX7 tyX7_ok (List.mem_of_getElem? (i := 3) rfl) (List.mem_of_getElem? (i := 4) rfl) (List.mem_of_getElem? (i := 5) rfl) (ci := 7) rfl [iv (0), .null, .null, .null, .null, .null, iv (0), .null, .null, .null, .null, iv (0), iv (0), .null, jv (0), jv (0), .null, jv (0), .null, jv (0), .null, iv (0), iv (0), .null, .null, .null, .null, .null, .null, jv (0), .null, .null, .null, iv (0), .null, .null, iv (0), iv (0)] (by decide) (Nat.le_of_ble_eq_true rfl) (Nat.le_of_ble_eq_true rfl) dL_law_8 (fun q2 => ?_)
  refine g_dup F rfl dL_law_11 ?_
  refine g_callI F (As := []) (rest := [.ref q2]) (wr := wC cA x (pg 0) (bt 0) (se 0) (qr 0) (hd 0) 0 ++ wP cA pg (fun _ => 0) (fun _ => 0) (fun _ => 0) (fun _ => 0) (fun _ => 0) (fun _ => 0) (fun _ => 0) (fun _ => 0) (fun _ => 0) 0 0 ++ wB cA bt (fun _ => 0) 0 1 3 ++ wS cA se (fun _ => none) (fun _ => 0) (fun _ => 0) ++ wQ cA qr (tq 0) (fun _ => 0) (fun _ => 0) ++ wT cA tq (fun _ => 0) (fun _ => 0) (fun _ => 0) (fun _ => 0) (fun _ => 0) (fun _ => 0) 0 0 1 (-1) ++ wH cA hd (fun _ => 0) (fun _ => 0) 1 1) (kX7_init l D cA q2) (cwI 0 F.2.2.2.2.1 gL_law_X7_init rfl rfl rfl (F.2.2.2.2.1 _ (List.mem_of_getElem? (i := 5) rfl)) (F.2.2.2.2.1 _ (List.mem_of_getElem? (i := 93) rfl)) (F.2.2.2.2.1 _ (List.mem_of_getElem? (i := 94) rfl)) rfl (by decide +kernel) ⟨(Nat.le_of_ble_eq_true rfl), (Nat.le_of_ble_eq_true rfl)⟩) [30] [0, 1, 2, 3, 4, 5, 6, 7, 8, 9, 10, 11, 12, 13, 14, 15, 16, 17, 18, 19, 20, 21, 22, 23, 24, 25, 26, 27, 28, 29] rfl rfl (by decide) (by decide) (by decide) rfl rfl (Nat.le_of_ble_eq_true rfl) ⟨(Nat.le_of_ble_eq_true rfl), (Nat.le_of_ble_eq_true rfl)⟩ hA dL_law_12 (fun v w hv => ?_)
  obtain ⟨hv, md, hm0, hw⟩ := hv
  subst hv
  subst hw
  subst hm0
  refine g_eq (ws' := wC cA x (pg 0) (bt 0) (se 0) (qr 0) (hd 0) 0 ++ wP cA pg (fun _ => 0) (fun _ => 0) (fun _ => 0) (fun _ => 0) (fun _ => 0) (fun _ => 0) (fun _ => 0) (fun _ => 0) (fun _ => 0) 0 0 ++ wB cA bt (fun _ => 0) 0 1 3 ++ wS cA se (fun _ => none) (fun _ => 0) (fun _ => 0) ++ wQ cA qr (tq 0) (fun _ => 0) (fun _ => 0) ++ wT cA tq (fun _ => 0) (fun _ => 0) (fun _ => 0) (fun _ => 0) (fun _ => 0) (fun _ => 0) 0 0 1 (-1) ++ wH cA hd (fun _ => 0) (fun _ => 0) 1 1 ++ (wMO cA md 0 0 (-1) 0 1 0 1 1 0 0 0 0 0 0 ++ wMP cA md (fun _ => 0) (fun _ => 0) (fun _ => 0) (fun _ => 0) (fun _ => 0) (fun _ => 0) (fun _ => 0) (fun _ => 0) (fun _ => 0) ++ wME cA md (fun _ => 0) (fun _ => 0) (fun _ => 0) (fun _ => 0) (fun _ => 0) (fun _ => 0) (fun _ => 0) ++ wMX cA md (fun _ => 0) (fun _ => 0) (fun _ => 0) ++ wMB cA md (fun _ => 0) (fun _ => 0) (fun _ => 0) ++ wMH cA md (fun _ => 0) (fun _ => 0))) (st' := [.ref (md 0)]) rfl rfl rfl ?_
  refine g_astore_n F ([(2, .ref (md 0)), (1, .ref (x 0)), (0, .ref sb)]) rfl rfl (by decide) dL_law_15 ?_
  refine g_iconst F dL_law_16 ?_
  refine g_istore_n F ([(3, iv 0), (2, .ref (md 0)), (1, .ref (x 0)), (0, .ref sb)]) rfl rfl (by decide) dL_law_17 ?_
  refine g_lsub ([(0, .ref sb), (1, .ref (x 0)), (2, .ref (md 0)), (3, iv 0)]) [3, 2, 1, 0] rfl ?_
  refine g_wsub (wfl [wC cA x (pg 0) (bt 0) (se 0) (qr 0) (hd 0) 0, wS cA se (fun _ => none) (bSp (((0, fun _ => (0, zT), fun _ => 0, fun _ => 0, (fun _ => 0, 0, 1, 3)) : BX))) (bSg (((0, fun _ => (0, zT), fun _ => 0, fun _ => 0, (fun _ => 0, 0, 1, 3)) : BX))), wP cA pg (fun _ => 0) (fun _ => 0) (fun _ => 0) (fun _ => 0) (fun _ => 0) (fun _ => 0) (fun _ => 0) (fun _ => 0) (fun _ => 0) ((0 : Nat) : Int) ((0 : Nat) : Int), wB cA bt (bBs (((0, fun _ => (0, zT), fun _ => 0, fun _ => 0, (fun _ => 0, 0, 1, 3)) : BX))).1 (bBs (((0, fun _ => (0, zT), fun _ => 0, fun _ => 0, (fun _ => 0, 0, 1, 3)) : BX))).2.1 (bBs (((0, fun _ => (0, zT), fun _ => 0, fun _ => 0, (fun _ => 0, 0, 1, 3)) : BX))).2.2.1 (bBs (((0, fun _ => (0, zT), fun _ => 0, fun _ => 0, (fun _ => 0, 0, 1, 3)) : BX))).2.2.2, wQ cA qr (tq 0) (fun _ => 0) (fun _ => 0), wTS cA tq 0 zT, wH cA hd (fun _ => 0) (fun _ => 0) 1 1, wMO cA md ((0 : Nat) : Int) ((0 : Nat) : Int) (-1) 0 1 0 1 1 0 0 0 0 0 0, wMP cA md (fun _ => 0) (fun _ => 0) (fun _ => 0) (fun _ => 0) (fun _ => 0) (fun _ => 0) (fun _ => 0) (fun _ => 0) (fun _ => 0), wME cA md (fun _ => 0) (fun _ => 0) (fun _ => 0) (fun _ => 0) (fun _ => 0) (fun _ => 0) (fun _ => 0), wMX cA md (fun _ => 0) (fun _ => 0) (fun _ => 0), wMB cA md (fun _ => 0) (fun _ => 0) (fun _ => 0), wMH cA md (fun _ => 0) (fun _ => 0), poolE cA (fun _ _ => 0) (bTb (((0, fun _ => (0, zT), fun _ => 0, fun _ => 0, (fun _ => 0, 0, 1, 3)) : BX))) (fun _ => false) 0]) [0, 13, 14, 15, 16, 1, 2, 3, 4, 5, 6, 7, 8, 9, 10, 11, 12, 17, 18, 19, 20, 21, 22, 23, 24, 25, 26, 27, 28, 29, 30, 31, 32, 33, 34, 35, 36, 37, 38, 39, 40, 41, 42, 43, 44, 45, 46, 47, 48, 49, 50, 51, 52, 53, 54] (by decide) rfl ?_
  refine g_widen 400 4000 (Nat.le_of_ble_eq_true rfl) (Nat.le_of_ble_eq_true rfl) ?_
  exact lw_loop F hA hA2 hX hbl hbA hL rfl (Ln + 1) 0 (by omega) (by omega) (fun _ => 0) (fun _ => 0) (fun _ => 0) (fun _ => 0) (fun _ => 0) (fun _ => 0) (fun _ => 0) (fun _ => 0) (fun _ => 0) 0 0 0 (((0, fun _ => (0, zT), fun _ => 0, fun _ => 0, (fun _ => 0, 0, 1, 3)) : BX)) 0 (fun _ _ => 0) (fun _ => none) (fun _ => 0) (fun _ => 0) 0 zT (fun _ => 0) (fun _ => 0) 1 1 (-1) 1 0 0 0 0 0 0 0 (fun _ => 0) (fun _ => 0) (fun _ => 0) (fun _ => 0) (fun _ => 0) (fun _ => 0) (fun _ => 0) (fun _ => 0) (fun _ => 0) (fun _ => 0) (fun _ => 0) (fun _ => 0) (fun _ => 0) lw_I0
set_option maxHeartbeats 4000000 in
set_option maxRecDepth 100000 in
theorem whole_start {p : Program} {e : Env} {s : State} {m : MethodId} {below : List Frame} {meth : Method} {c : Code} (l : Launch) {b L : Nat} {xs : Nat → Int32} (hL : L ≤ 2048) (C0 : lw_At p s m meth c b L xs) : W p l e room_1 s m #[Value.ref b] below meth c s.heap [] 0 0 (lw_Z below #[Value.ref b] s) (entryFrame m ([Value.ref b] : List Value).toArray 4) := by
  obtain ⟨hx, hb, hr, hml, hown, hts, hX, hbl, hlocks, hgv⟩ := id C0
  have hA : ∀ q : Nat, s.heap.size ≤ q → (fun q : Nat => s.heap.size ≤ q) q := fun _ h => h
  have hA2 : ∀ q : Nat, (fun q : Nat => s.heap.size ≤ q) q → s.heap.size ≤ q := fun _ h => h
  have hbA : ¬ (fun q : Nat => s.heap.size ≤ q) b := Nat.not_le.mpr hbl
  obtain ⟨c0, i0, hk0⟩ := u_known (C := RX0) (T := TX0) (N := 4) (n := 4) hts inX0 (hts (.instantiable RX0 4) (wsL_law_in _ (List.mem_of_getElem? (i := 17) rfl)))
  obtain ⟨c1, i1, hk1⟩ := u_known (C := RX1) (T := TX1) (N := 4) (n := 4) hts inX1 (hts (.instantiable RX1 4) (wsL_law_in _ (List.mem_of_getElem? (i := 29) rfl)))
  obtain ⟨c2, i2, hk2⟩ := u_known (C := RX2) (T := TX2) (N := 11) (n := 11) hts inX2 (hts (.instantiable RX2 11) (wsL_law_in _ (List.mem_of_getElem? (i := 13) rfl)))
  obtain ⟨c3, i3, hk3⟩ := u_known (C := RX3) (T := TX3) (N := 3) (n := 3) hts inX3 (hts (.instantiable RX3 3) (wsL_law_in _ (List.mem_of_getElem? (i := 25) rfl)))
  obtain ⟨c4, i4, hk4⟩ := u_known (C := RX4) (T := TX4) (N := 3) (n := 3) hts inX4 (hts (.instantiable RX4 3) (wsL_law_in _ (List.mem_of_getElem? (i := 21) rfl)))
  obtain ⟨c5, i5, hk5⟩ := u_known (C := RX5) (T := TX5) (N := 10) (n := 10) hts inX5 (hts (.instantiable RX5 10) (wsL_law_in _ (List.mem_of_getElem? (i := 67) rfl)))
  obtain ⟨c6, i6, hk6⟩ := u_known (C := RX6) (T := TX6) (N := 6) (n := 6) hts inX6 (hts (.instantiable RX6 6) (wsL_law_in _ (List.mem_of_getElem? (i := 1) rfl)))
  obtain ⟨c7, i7, hk7⟩ := u_known (C := RX7) (T := TX7) (N := 38) (n := 38) hts inX7 (hts (.instantiable RX7 38) (wsL_law_in _ (List.mem_of_getElem? (i := 4) rfl)))
  obtain ⟨aI, kI, pI, fI1, fI2, fI3⟩ := Cond.arrayClass_spec (hts (.arrayClass .int) (wsL_law_in _ (List.mem_of_getElem? (i := 36) rfl)))
  obtain ⟨aJ, kJ, pJ, fJ1, fJ2, fJ3⟩ := Cond.arrayClass_spec (hts (.arrayClass .long) (wsL_law_in _ (List.mem_of_getElem? (i := 51) rfl)))
  obtain ⟨aZ, kZ, pZ, fZ1, fZ2, fZ3⟩ := Cond.arrayClass_spec (hts (.arrayClass .boolean) (wsL_law_in _ (List.mem_of_getElem? (i := 71) rfl)))
  have hOb : (Cond.arrayOver (.object RX5)).before #[Value.ref b] s = true := hts _ (by decide +kernel)
  have hO : va_AO RX5 s := va_AO.of hOb
  obtain ⟨pT, aT, kT, fT1, fT2, fT3, fT4, fT5⟩ := Cond.arrayOver_spec hOb
  obtain ⟨D, cA, hKA⟩ : ∃ (D : va_G) (cA : Nat → ClassId), KA D cA s := by
    refine ⟨(fun k => if k = 0 then c0 else if k = 1 then c1 else if k = 2 then c2 else if k = 3 then c3 else if k = 4 then c4 else if k = 5 then c5 else if k = 6 then c6 else c7, fun k => if k = 0 then i0 else if k = 1 then i1 else if k = 2 then i2 else if k = 3 then i3 else if k = 4 then i4 else if k = 5 then i5 else if k = 6 then i6 else i7), fun k => if k = 0 then aI else if k = 1 then aJ else if k = 2 then aZ else aT, ⟨⟨?_, ?_⟩, ?_⟩⟩
    · intro k q hq
      match k, hq with
      | 0, hq => cases hq; exact hk0
      | 1, hq => cases hq; exact hk1
      | 2, hq => cases hq; exact hk2
      | 3, hq => cases hq; exact hk3
      | 4, hq => cases hq; exact hk4
      | 5, hq => cases hq; exact hk5
      | 6, hq => cases hq; exact hk6
      | 7, hq => cases hq; exact hk7
      | k + 8, hq => simp [vwCl] at hq
    · intro k q hq
      match k, hq with
      | 0, hq => cases hq; exact ⟨arr_of fI2 fI3, fI1⟩
      | 1, hq => cases hq; exact ⟨arr_of fJ2 fJ3, fJ1⟩
      | 2, hq => cases hq; exact ⟨arr_of fZ2 fZ3, fZ1⟩
      | 3, hq => cases hq; exact ⟨arr_of fT3 fT4, kT, pT, fT3, fT4, fT1, fT5⟩
      | k + 4, hq => simp [tysC] at hq
    · intro w hw
      have h1 : Cond.methodLinkNest w.1 w.2.1 w.2.2.1 w.2.2.2 ∈ lw_tbl := lw_nest w hw
      exact va_tabs (A := #[Value.ref b]) (A' := #[]) (u := s) (U := s) rfl rfl (hts _ h1)
  have F : Fx p s m #[Value.ref b] meth c cL_law 4 RL wsL_law ret D cA := ⟨hx, hb, hml, hown, fun w hw => hts w (wsL_law_in w hw), hKA, hr, hlocks⟩
  have hl := lv_entry ([Value.ref b]) (n := 4) (Nat.le_of_ble_eq_true rfl)
  rw [lg_entry_eq]
  refine lw_go F hO hA hA2 hX hbl hbA hL s.heap [] _ ⟨fun k q h => by simp at h, ⟨fun i j p q h => by simp at h, fun k q h => by simp at h⟩, va_S.rf⟩ hl
